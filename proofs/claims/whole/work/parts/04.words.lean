/-! THE WORDS THAT EVERY METHOD SHARES: all of the tables that a call keeps -/
/-- a private method, asked of an object of a subclass -/
theorem z_sel {y : MethodName} {C : String} {s : State} {args : Array Value} {n n2 : Nat} (hy : y.cls ≠ "java/lang/invoke/MethodHandle" ∧ y.cls ≠ "java/lang/invoke/VarHandle") (h1 : (Cond.instantiable C n2).before args s = true) (h2 : (Cond.instantiable y.cls n).before args s = true) (h3 : (Cond.privateMethod y).before args s = true) (h4 : (Cond.instanceMethod y).before args s = true) : (Cond.selects C y y).before args s = true := by
  obtain ⟨c, k, hc, hk, -, -, -, -⟩ := Cond.instantiable_spec h1
  obtain ⟨c2, k2, hc2, hk2, -, hb, -, -⟩ := Cond.instantiable_spec h2
  have hni : k2.isInterface = false := (Bool.or_eq_false_iff.mp hb).1
  obtain ⟨mk, methM, hnamed, hmethM, -, -⟩ := Cond.instanceMethod_spec h4
  have hfound := State.methodFound?_of_named hnamed hy
  have hcls : mk.cls = c2 := Option.some.inj ((findClass_of_methodNamed hnamed).symm.trans hc2)
  have hsel : selectMethod {} s.vm c mk = .method mk := selectMethod_private hmethM (Cond.privateMethod_at h3 mk methM hnamed hmethM)
  simp only [Cond.before, Cond.holds, Cond.value, hc, hfound, hnamed, hsel, hcls, hk2]
  simp
  exact hni
def z_sub : List (String × MethodName) := [("FanTalk$Aunt", ⟨"FanTalk$Friend", "choice", "(II)I"⟩), ("FanTalk$Chaperone", ⟨"FanTalk$Friend", "choice", "(II)I"⟩), ("FanTalk$Hasty", ⟨"FanTalk$Friend", "choice", "(II)I"⟩), ("FanTalk$Mirror", ⟨"FanTalk$Friend", "choice", "(II)I"⟩), ("FanTalk$Aunt", ⟨"FanTalk$Friend", "shows", "(II)Z"⟩), ("FanTalk$Chaperone", ⟨"FanTalk$Friend", "shows", "(II)Z"⟩), ("FanTalk$Hasty", ⟨"FanTalk$Friend", "shows", "(II)Z"⟩), ("FanTalk$Mirror", ⟨"FanTalk$Friend", "shows", "(II)Z"⟩)]
def z_subs : List Cond := z_sub.map fun q => Cond.selects q.1 q.2 q.2
def z_tbl : List Cond := z_subs ++ lw_tbl
def UW : List Cond := z_tbl.filter goodWord
theorem UW_lw : ∀ w ∈ UW, w ∈ z_tbl := fun w h => (List.mem_filter.mp h).1
theorem UW_good {ws : List Cond} (h : ∀ w ∈ ws, w ∈ UW) : GoodIn UW ws := fun w hw => ⟨h w hw, good_of_word (List.mem_filter.mp (h w hw)).2⟩
theorem um1 {w : Cond} (j : Nat) (h : tables_1_1[j]? = some w) (hg : goodWord w = true) : w ∈ UW := List.mem_filter.mpr ⟨List.mem_append_right _ (List.mem_append_right _ (List.mem_append_left _ (List.mem_of_getElem? h))), hg⟩
theorem um2 {w : Cond} (j : Nat) (h : tables_1_2[j]? = some w) (hg : goodWord w = true) : w ∈ UW := List.mem_filter.mpr ⟨List.mem_append_right _ (List.mem_append_right _ (List.mem_append_right _ (List.mem_append_left _ (List.mem_of_getElem? h)))), hg⟩
theorem um3 {w : Cond} (j : Nat) (h : tables_1_3[j]? = some w) (hg : goodWord w = true) : w ∈ UW := List.mem_filter.mpr ⟨List.mem_append_right _ (List.mem_append_right _ (List.mem_append_right _ (List.mem_append_right _ (List.mem_append_left _ (List.mem_of_getElem? h))))), hg⟩
theorem um4 {w : Cond} (j : Nat) (h : tables_1_4[j]? = some w) (hg : goodWord w = true) : w ∈ UW := List.mem_filter.mpr ⟨List.mem_append_right _ (List.mem_append_right _ (List.mem_append_right _ (List.mem_append_right _ (List.mem_append_right _ (List.mem_append_left _ (List.mem_of_getElem? h)))))), hg⟩
theorem um5 {w : Cond} (j : Nat) (h : tables_1_5[j]? = some w) (hg : goodWord w = true) : w ∈ UW := List.mem_filter.mpr ⟨List.mem_append_right _ (List.mem_append_right _ (List.mem_append_right _ (List.mem_append_right _ (List.mem_append_right _ (List.mem_append_right _ (List.mem_of_getElem? h)))))), hg⟩
theorem um0 (q : MethodName × Nat) (h : q ∈ lw_privs) (hg : goodWord (Cond.selects q.1.cls q.1 q.1) = true) : Cond.selects q.1.cls q.1 q.1 ∈ UW := List.mem_filter.mpr ⟨List.mem_append_right _ (List.mem_append_left _ (List.mem_map.mpr ⟨q, h, rfl⟩)), hg⟩
theorem umz (j : Nat) {q : String × MethodName} (h : z_sub[j]? = some q) (hg : goodWord (Cond.selects q.1 q.2 q.2) = true) : Cond.selects q.1 q.2 q.2 ∈ UW := List.mem_filter.mpr ⟨List.mem_append_left _ (List.mem_map.mpr ⟨q, List.mem_of_getElem? h, rfl⟩), hg⟩
theorem u_0 : (Cond.initialized "FanTalkLaw") ∈ UW := um1 0 rfl rfl
theorem u_1 : (Cond.initialized "FanTalk") ∈ UW := um1 1 rfl rfl
theorem u_2 : (Cond.initialized "FanTalk$Talk") ∈ UW := um1 2 rfl rfl
theorem u_3 : (Cond.initialized "FanTalk$Codes") ∈ UW := um1 3 rfl rfl
theorem u_4 : (Cond.initialized "FanTalk$Past") ∈ UW := um1 4 rfl rfl
theorem u_5 : (Cond.initialized "FanTalk$Script") ∈ UW := um1 5 rfl rfl
theorem u_6 : (Cond.initialized "FanTalk$Friend") ∈ UW := um1 6 rfl rfl
theorem u_7 : (Cond.initialized "FanTalk$Hasty") ∈ UW := um1 7 rfl rfl
theorem u_8 : (Cond.initialized "FanTalk$Chaperone") ∈ UW := um1 8 rfl rfl
theorem u_9 : (Cond.initialized "FanTalk$Mirror") ∈ UW := um1 9 rfl rfl
theorem u_10 : (Cond.initialized "FanTalk$Aunt") ∈ UW := um1 10 rfl rfl
theorem u_11 : (Cond.initialized "FanTalk$Walk") ∈ UW := um1 11 rfl rfl
theorem u_12 : (Cond.initialized "FanTalkModel") ∈ UW := um1 12 rfl rfl
theorem u_13 : (Cond.initialized "FanTalk$Rows") ∈ UW := um1 13 rfl rfl
theorem u_14 : (Cond.initialized "java/lang/String") ∈ UW := um1 14 rfl rfl
theorem u_15 : (Cond.initialized "java/lang/StringLatin1") ∈ UW := um1 15 rfl rfl
theorem u_16 : (Cond.initialized "jdk/internal/util/Preconditions") ∈ UW := um1 16 rfl rfl
theorem u_17 : (Cond.initialized "java/lang/StringUTF16") ∈ UW := um1 17 rfl rfl
theorem u_18 : (Cond.initialized "java/lang/System") ∈ UW := um1 18 rfl rfl
theorem u_19 : (Cond.initialized "java/lang/Math") ∈ UW := um1 19 rfl rfl
theorem u_20 : (Cond.classLink "FanTalkLaw" (7 : Nat) "FanTalk") ∈ UW := um1 20 rfl rfl
theorem u_21 : (Cond.instantiable "FanTalk" (11 : Nat)) ∈ UW := um1 21 rfl rfl
theorem u_22 : (Cond.methodLink "FanTalkLaw" (9 : Nat) ({ cls := "FanTalk", name := "<init>", desc := "()V" } : MethodName)) ∈ UW := um1 22 rfl rfl
theorem u_23 : (Cond.instanceMethod ({ cls := "FanTalk", name := "<init>", desc := "()V" } : MethodName)) ∈ UW := um1 23 rfl rfl
theorem u_24 : (Cond.code ({ cls := "FanTalk", name := "<init>", desc := "()V" } : MethodName) prog_1_method_1_code (1 : Nat) (Option.none : Option ClassFile.FieldType)) ∈ UW := um1 24 rfl rfl
theorem u_25 : (Cond.methodLink "FanTalk" (1 : Nat) ({ cls := "java/lang/Object", name := "<init>", desc := "()V" } : MethodName)) ∈ UW := um1 25 rfl rfl
theorem u_26 : (Cond.instanceMethod ({ cls := "java/lang/Object", name := "<init>", desc := "()V" } : MethodName)) ∈ UW := um1 26 rfl rfl
theorem u_27 : (Cond.code ({ cls := "java/lang/Object", name := "<init>", desc := "()V" } : MethodName) object_method_1_code (1 : Nat) (Option.none : Option ClassFile.FieldType)) ∈ UW := um1 27 rfl rfl
theorem u_28 : (Cond.classLink "FanTalk" (7 : Nat) "FanTalk$Talk") ∈ UW := um1 28 rfl rfl
theorem u_29 : (Cond.instantiable "FanTalk$Talk" (10 : Nat)) ∈ UW := um1 29 rfl rfl
theorem u_31 : (Cond.instanceMethod ({ cls := "FanTalk$Talk", name := "<init>", desc := "()V" } : MethodName)) ∈ UW := um1 31 rfl rfl
theorem u_32 : (Cond.code ({ cls := "FanTalk$Talk", name := "<init>", desc := "()V" } : MethodName) prog_11_method_1_code (1 : Nat) (Option.none : Option ClassFile.FieldType)) ∈ UW := um1 32 rfl rfl
theorem u_33 : (Cond.methodLink "FanTalk$Talk" (3 : Nat) ({ cls := "java/lang/Object", name := "<init>", desc := "()V" } : MethodName)) ∈ UW := um1 33 rfl rfl
theorem u_34 : (Cond.classLink "FanTalk$Talk" (9 : Nat) "FanTalk$Codes") ∈ UW := um1 34 rfl rfl
theorem u_35 : (Cond.instantiable "FanTalk$Codes" (5 : Nat)) ∈ UW := um1 35 rfl rfl
theorem u_37 : (Cond.instanceMethod ({ cls := "FanTalk$Codes", name := "<init>", desc := "()V" } : MethodName)) ∈ UW := um1 37 rfl rfl
theorem u_38 : (Cond.code ({ cls := "FanTalk$Codes", name := "<init>", desc := "()V" } : MethodName) prog_4_method_1_code (1 : Nat) (Option.none : Option ClassFile.FieldType)) ∈ UW := um1 38 rfl rfl
theorem u_39 : (Cond.methodLink "FanTalk$Codes" (3 : Nat) ({ cls := "java/lang/Object", name := "<init>", desc := "()V" } : MethodName)) ∈ UW := um1 39 rfl rfl
theorem u_40 : (Cond.fieldLink "FanTalk$Codes" (24 : Nat) "FanTalk$Codes" "codes" "I") ∈ UW := um1 40 rfl rfl
theorem u_41 : (Cond.fieldLink "FanTalk" (77 : Nat) "FanTalk$Codes" "codes" "I") ∈ UW := um1 41 rfl rfl
theorem u_42 : (Cond.fieldLink "FanTalk$Script" (26 : Nat) "FanTalk$Codes" "codes" "I") ∈ UW := um1 42 rfl rfl
theorem u_43 : (Cond.fieldLink "FanTalk$Codes" (9 : Nat) "FanTalk$Codes" "entries" "[I") ∈ UW := um1 43 rfl rfl
theorem u_44 : (Cond.fieldLink "FanTalk" (115 : Nat) "FanTalk$Codes" "entries" "[I") ∈ UW := um1 44 rfl rfl
theorem u_45 : (Cond.fieldLink "FanTalk$Friend" (30 : Nat) "FanTalk$Codes" "entries" "[I") ∈ UW := um1 45 rfl rfl
theorem u_46 : (Cond.fieldLink "FanTalk$Script" (81 : Nat) "FanTalk$Codes" "entries" "[I") ∈ UW := um1 46 rfl rfl
theorem u_47 : (Cond.fieldLink "FanTalk$Codes" (15 : Nat) "FanTalk$Codes" "rows" "[I") ∈ UW := um1 47 rfl rfl
theorem u_48 : (Cond.fieldLink "FanTalk$Friend" (39 : Nat) "FanTalk$Codes" "rows" "[I") ∈ UW := um1 48 rfl rfl
theorem u_49 : (Cond.fieldLink "FanTalk" (122 : Nat) "FanTalk$Codes" "rows" "[I") ∈ UW := um1 49 rfl rfl
theorem u_50 : (Cond.fieldLink "FanTalk$Codes" (18 : Nat) "FanTalk$Codes" "words" "[I") ∈ UW := um1 50 rfl rfl
theorem u_51 : (Cond.fieldLink "FanTalk$Friend" (38 : Nat) "FanTalk$Codes" "words" "[I") ∈ UW := um1 51 rfl rfl
theorem u_52 : (Cond.fieldLink "FanTalk" (125 : Nat) "FanTalk$Codes" "words" "[I") ∈ UW := um1 52 rfl rfl
theorem u_53 : (Cond.fieldLink "FanTalk$Codes" (21 : Nat) "FanTalk$Codes" "uses" "[I") ∈ UW := um1 53 rfl rfl
theorem u_54 : (Cond.fieldLink "FanTalk" (196 : Nat) "FanTalk$Codes" "uses" "[I") ∈ UW := um1 54 rfl rfl
theorem u_65 : (Cond.superclass "FanTalk$Codes" "java/lang/Object") ∈ UW := um1 65 rfl rfl
theorem u_66 : (Cond.arrayClass ClassFile.FieldType.int) ∈ UW := um1 66 rfl rfl
theorem u_67 : (Cond.classLink "FanTalk$Talk" (18 : Nat) "FanTalk$Past") ∈ UW := um1 67 rfl rfl
theorem u_68 : (Cond.instantiable "FanTalk$Past" (2 : Nat)) ∈ UW := um1 68 rfl rfl
theorem u_70 : (Cond.instanceMethod ({ cls := "FanTalk$Past", name := "<init>", desc := "()V" } : MethodName)) ∈ UW := um1 70 rfl rfl
theorem u_71 : (Cond.code ({ cls := "FanTalk$Past", name := "<init>", desc := "()V" } : MethodName) prog_8_method_1_code (1 : Nat) (Option.none : Option ClassFile.FieldType)) ∈ UW := um1 71 rfl rfl
theorem u_72 : (Cond.methodLink "FanTalk$Past" (3 : Nat) ({ cls := "java/lang/Object", name := "<init>", desc := "()V" } : MethodName)) ∈ UW := um1 72 rfl rfl
theorem u_73 : (Cond.classLink "FanTalk$Past" (9 : Nat) "FanTalk$Codes") ∈ UW := um1 73 rfl rfl
theorem u_76 : (Cond.fieldLink "FanTalk$Past" (12 : Nat) "FanTalk$Past" "before" "[LFanTalk$Codes;") ∈ UW := um1 76 rfl rfl
theorem u_77 : (Cond.fieldLink "FanTalk$Past" (18 : Nat) "FanTalk$Past" "kept" "I") ∈ UW := um1 77 rfl rfl
theorem u_78 : (Cond.fieldLink "FanTalk" (90 : Nat) "FanTalk$Past" "kept" "I") ∈ UW := um1 78 rfl rfl
theorem u_83 : (Cond.superclass "FanTalk$Past" "java/lang/Object") ∈ UW := um1 83 rfl rfl
theorem u_84 : (Cond.fieldLink "FanTalk$Talk" (12 : Nat) "FanTalk$Talk" "codes" "LFanTalk$Codes;") ∈ UW := um1 84 rfl rfl
theorem u_85 : (Cond.fieldLink "FanTalk" (73 : Nat) "FanTalk$Talk" "codes" "LFanTalk$Codes;") ∈ UW := um1 85 rfl rfl
theorem u_86 : (Cond.fieldLink "FanTalk$Talk" (21 : Nat) "FanTalk$Talk" "past" "LFanTalk$Past;") ∈ UW := um1 86 rfl rfl
theorem u_87 : (Cond.fieldLink "FanTalk" (86 : Nat) "FanTalk$Talk" "past" "LFanTalk$Past;") ∈ UW := um1 87 rfl rfl
theorem u_88 : (Cond.fieldLink "FanTalk$Talk" (45 : Nat) "FanTalk$Talk" "draughts" "I") ∈ UW := um1 88 rfl rfl
theorem u_89 : (Cond.fieldLink "FanTalk" (128 : Nat) "FanTalk$Talk" "draughts" "I") ∈ UW := um1 89 rfl rfl
theorem u_90 : (Cond.fieldLink "FanTalk$Talk" (25 : Nat) "FanTalk$Talk" "saying" "[I") ∈ UW := um1 90 rfl rfl
theorem u_91 : (Cond.fieldLink "FanTalk" (160 : Nat) "FanTalk$Talk" "saying" "[I") ∈ UW := um1 91 rfl rfl
theorem u_92 : (Cond.fieldLink "FanTalk$Talk" (55 : Nat) "FanTalk$Talk" "beats" "I") ∈ UW := um1 92 rfl rfl
theorem u_93 : (Cond.fieldLink "FanTalk" (169 : Nat) "FanTalk$Talk" "beats" "I") ∈ UW := um1 93 rfl rfl
theorem u_94 : (Cond.fieldLink "FanTalk$Talk" (29 : Nat) "FanTalk$Talk" "want" "[I") ∈ UW := um1 94 rfl rfl
theorem u_95 : (Cond.fieldLink "FanTalk" (208 : Nat) "FanTalk$Talk" "want" "[I") ∈ UW := um1 95 rfl rfl
theorem u_96 : (Cond.fieldLink "FanTalk$Talk" (58 : Nat) "FanTalk$Talk" "wants" "I") ∈ UW := um1 96 rfl rfl
theorem u_97 : (Cond.fieldLink "FanTalk" (205 : Nat) "FanTalk$Talk" "wants" "I") ∈ UW := um1 97 rfl rfl
theorem u_98 : (Cond.fieldLink "FanTalk$Talk" (32 : Nat) "FanTalk$Talk" "factRows" "[I") ∈ UW := um1 98 rfl rfl
theorem u_99 : (Cond.fieldLink "FanTalk" (233 : Nat) "FanTalk$Talk" "factRows" "[I") ∈ UW := um1 99 rfl rfl
theorem u_100 : (Cond.fieldLink "FanTalk$Talk" (35 : Nat) "FanTalk$Talk" "factWords" "[I") ∈ UW := um1 100 rfl rfl
theorem u_101 : (Cond.fieldLink "FanTalk" (236 : Nat) "FanTalk$Talk" "factWords" "[I") ∈ UW := um1 101 rfl rfl
theorem u_102 : (Cond.fieldLink "FanTalk$Talk" (61 : Nat) "FanTalk$Talk" "facts" "I") ∈ UW := um1 102 rfl rfl
theorem u_103 : (Cond.fieldLink "FanTalk" (230 : Nat) "FanTalk$Talk" "facts" "I") ∈ UW := um1 103 rfl rfl
theorem u_124 : (Cond.superclass "FanTalk$Talk" "java/lang/Object") ∈ UW := um1 124 rfl rfl
theorem u_126 : (Cond.classLink "FanTalk" (24 : Nat) "FanTalk$Script") ∈ UW := um1 126 rfl rfl
theorem u_127 : (Cond.instantiable "FanTalk$Script" (9 : Nat)) ∈ UW := um1 127 rfl rfl
theorem u_129 : (Cond.instanceMethod ({ cls := "FanTalk$Script", name := "<init>", desc := "()V" } : MethodName)) ∈ UW := um1 129 rfl rfl
theorem u_130 : (Cond.code ({ cls := "FanTalk$Script", name := "<init>", desc := "()V" } : MethodName) prog_10_method_1_code (1 : Nat) (Option.none : Option ClassFile.FieldType)) ∈ UW := um1 130 rfl rfl
theorem u_131 : (Cond.methodLink "FanTalk$Script" (3 : Nat) ({ cls := "java/lang/Object", name := "<init>", desc := "()V" } : MethodName)) ∈ UW := um1 131 rfl rfl
theorem u_132 : (Cond.classLink "FanTalk$Script" (15 : Nat) "FanTalk$Codes") ∈ UW := um1 132 rfl rfl
theorem u_134 : (Cond.fieldLink "FanTalk$Script" (9 : Nat) "FanTalk$Script" "text" "[I") ∈ UW := um1 134 rfl rfl
theorem u_135 : (Cond.fieldLink "FanTalk$Script" (22 : Nat) "FanTalk$Script" "length" "I") ∈ UW := um1 135 rfl rfl
theorem u_136 : (Cond.fieldLink "FanTalk" (131 : Nat) "FanTalk$Script" "length" "I") ∈ UW := um1 136 rfl rfl
theorem u_137 : (Cond.fieldLink "FanTalk$Script" (18 : Nat) "FanTalk$Script" "fresh" "LFanTalk$Codes;") ∈ UW := um1 137 rfl rfl
theorem u_138 : (Cond.fieldLink "FanTalk" (141 : Nat) "FanTalk$Script" "fresh" "LFanTalk$Codes;") ∈ UW := um1 138 rfl rfl
theorem u_139 : (Cond.fieldLink "FanTalk$Script" (29 : Nat) "FanTalk$Script" "draughts" "I") ∈ UW := um1 139 rfl rfl
theorem u_140 : (Cond.fieldLink "FanTalk" (148 : Nat) "FanTalk$Script" "draughts" "I") ∈ UW := um1 140 rfl rfl
theorem u_141 : (Cond.fieldLink "FanTalk$Script" (32 : Nat) "FanTalk$Script" "items" "I") ∈ UW := um1 141 rfl rfl
theorem u_142 : (Cond.fieldLink "FanTalk" (149 : Nat) "FanTalk$Script" "items" "I") ∈ UW := um1 142 rfl rfl
theorem u_143 : (Cond.fieldLink "FanTalk$Script" (41 : Nat) "FanTalk$Script" "token" "I") ∈ UW := um1 143 rfl rfl
theorem u_144 : (Cond.fieldLink "FanTalk$Script" (48 : Nat) "FanTalk$Script" "start" "I") ∈ UW := um1 144 rfl rfl
theorem u_145 : (Cond.fieldLink "FanTalk$Script" (35 : Nat) "FanTalk$Script" "end" "I") ∈ UW := um1 145 rfl rfl
theorem u_146 : (Cond.fieldLink "FanTalk$Script" (74 : Nat) "FanTalk$Script" "value" "I") ∈ UW := um1 146 rfl rfl
theorem u_165 : (Cond.superclass "FanTalk$Script" "java/lang/Object") ∈ UW := um1 165 rfl rfl
theorem u_166 : (Cond.arrayClass ClassFile.FieldType.boolean) ∈ UW := um1 166 rfl rfl
theorem u_167 : (Cond.classLink "FanTalk" (35 : Nat) "FanTalk$Friend") ∈ UW := um1 167 rfl rfl
theorem u_169 : (Cond.instantiable "FanTalk$Friend" (9 : Nat)) ∈ UW := um1 169 rfl rfl
theorem u_171 : (Cond.instanceMethod ({ cls := "FanTalk$Friend", name := "<init>", desc := "()V" } : MethodName)) ∈ UW := um1 171 rfl rfl
theorem u_172 : (Cond.code ({ cls := "FanTalk$Friend", name := "<init>", desc := "()V" } : MethodName) prog_5_method_1_code (1 : Nat) (Option.none : Option ClassFile.FieldType)) ∈ UW := um1 172 rfl rfl
theorem u_173 : (Cond.methodLink "FanTalk$Friend" (3 : Nat) ({ cls := "java/lang/Object", name := "<init>", desc := "()V" } : MethodName)) ∈ UW := um1 173 rfl rfl
theorem u_174 : (Cond.fieldLink "FanTalk$Friend" (9 : Nat) "FanTalk$Friend" "words" "[I") ∈ UW := um1 174 rfl rfl
theorem u_175 : (Cond.fieldLink "FanTalk" (184 : Nat) "FanTalk$Friend" "words" "[I") ∈ UW := um1 175 rfl rfl
theorem u_176 : (Cond.fieldLink "FanTalk$Friend" (15 : Nat) "FanTalk$Friend" "lookedFor" "[I") ∈ UW := um1 176 rfl rfl
theorem u_177 : (Cond.fieldLink "FanTalk" (295 : Nat) "FanTalk$Friend" "lookedFor" "[I") ∈ UW := um1 177 rfl rfl
theorem u_178 : (Cond.fieldLink "FanTalk$Friend" (61 : Nat) "FanTalk$Friend" "looked" "I") ∈ UW := um1 178 rfl rfl
theorem u_179 : (Cond.fieldLink "FanTalk" (298 : Nat) "FanTalk$Friend" "looked" "I") ∈ UW := um1 179 rfl rfl
theorem u_180 : (Cond.fieldLink "FanTalk$Friend" (64 : Nat) "FanTalk$Friend" "heard" "I") ∈ UW := um1 180 rfl rfl
theorem u_181 : (Cond.fieldLink "FanTalk" (181 : Nat) "FanTalk$Friend" "heard" "I") ∈ UW := um1 181 rfl rfl
theorem u_182 : (Cond.fieldLink "FanTalk$Friend" (18 : Nat) "FanTalk$Friend" "seen" "[I") ∈ UW := um1 182 rfl rfl
theorem u_183 : (Cond.fieldLink "FanTalk$Friend" (21 : Nat) "FanTalk$Friend" "meanings" "[I") ∈ UW := um1 183 rfl rfl
theorem u_184 : (Cond.fieldLink "FanTalk$Friend" (24 : Nat) "FanTalk$Friend" "lengths" "[I") ∈ UW := um1 184 rfl rfl
theorem u_185 : (Cond.fieldLink "FanTalk$Friend" (27 : Nat) "FanTalk$Friend" "states" "[I") ∈ UW := um1 185 rfl rfl
theorem u_186 : (Cond.fieldLink "FanTalk$Friend" (35 : Nat) "FanTalk$Friend" "entries" "I") ∈ UW := um1 186 rfl rfl
theorem u_205 : (Cond.superclass "FanTalk$Friend" "java/lang/Object") ∈ UW := um1 205 rfl rfl
theorem u_206 : (Cond.classLink "FanTalk" (38 : Nat) "FanTalk$Hasty") ∈ UW := um1 206 rfl rfl
theorem u_207 : (Cond.instantiable "FanTalk$Hasty" (9 : Nat)) ∈ UW := um1 207 rfl rfl
theorem u_209 : (Cond.instanceMethod ({ cls := "FanTalk$Hasty", name := "<init>", desc := "()V" } : MethodName)) ∈ UW := um1 209 rfl rfl
theorem u_210 : (Cond.code ({ cls := "FanTalk$Hasty", name := "<init>", desc := "()V" } : MethodName) prog_6_method_1_code (1 : Nat) (Option.none : Option ClassFile.FieldType)) ∈ UW := um1 210 rfl rfl
theorem u_221 : (Cond.superclass "FanTalk$Hasty" "FanTalk$Friend") ∈ UW := um1 221 rfl rfl
theorem u_222 : (Cond.classLink "FanTalk" (41 : Nat) "FanTalk$Chaperone") ∈ UW := um1 222 rfl rfl
theorem u_223 : (Cond.instantiable "FanTalk$Chaperone" (9 : Nat)) ∈ UW := um1 223 rfl rfl
theorem u_225 : (Cond.instanceMethod ({ cls := "FanTalk$Chaperone", name := "<init>", desc := "()V" } : MethodName)) ∈ UW := um1 225 rfl rfl
theorem u_226 : (Cond.code ({ cls := "FanTalk$Chaperone", name := "<init>", desc := "()V" } : MethodName) prog_3_method_1_code (1 : Nat) (Option.none : Option ClassFile.FieldType)) ∈ UW := um1 226 rfl rfl
theorem u_237 : (Cond.superclass "FanTalk$Chaperone" "FanTalk$Friend") ∈ UW := um1 237 rfl rfl
theorem u_238 : (Cond.classLink "FanTalk" (44 : Nat) "FanTalk$Mirror") ∈ UW := um1 238 rfl rfl
theorem u_239 : (Cond.instantiable "FanTalk$Mirror" (9 : Nat)) ∈ UW := um1 239 rfl rfl
theorem u_241 : (Cond.instanceMethod ({ cls := "FanTalk$Mirror", name := "<init>", desc := "()V" } : MethodName)) ∈ UW := um2 1 rfl rfl
theorem u_242 : (Cond.code ({ cls := "FanTalk$Mirror", name := "<init>", desc := "()V" } : MethodName) prog_7_method_1_code (1 : Nat) (Option.none : Option ClassFile.FieldType)) ∈ UW := um2 2 rfl rfl
theorem u_253 : (Cond.superclass "FanTalk$Mirror" "FanTalk$Hasty") ∈ UW := um2 13 rfl rfl
theorem u_254 : (Cond.classLink "FanTalk" (47 : Nat) "FanTalk$Aunt") ∈ UW := um2 14 rfl rfl
theorem u_255 : (Cond.instantiable "FanTalk$Aunt" (9 : Nat)) ∈ UW := um2 15 rfl rfl
theorem u_257 : (Cond.instanceMethod ({ cls := "FanTalk$Aunt", name := "<init>", desc := "()V" } : MethodName)) ∈ UW := um2 17 rfl rfl
theorem u_258 : (Cond.code ({ cls := "FanTalk$Aunt", name := "<init>", desc := "()V" } : MethodName) prog_2_method_1_code (1 : Nat) (Option.none : Option ClassFile.FieldType)) ∈ UW := um2 18 rfl rfl
theorem u_269 : (Cond.superclass "FanTalk$Aunt" "FanTalk$Chaperone") ∈ UW := um2 29 rfl rfl
theorem u_270 : (Cond.classLink "FanTalk" (54 : Nat) "FanTalk$Walk") ∈ UW := um2 30 rfl rfl
theorem u_271 : (Cond.instantiable "FanTalk$Walk" (2 : Nat)) ∈ UW := um2 31 rfl rfl
theorem u_273 : (Cond.instanceMethod ({ cls := "FanTalk$Walk", name := "<init>", desc := "()V" } : MethodName)) ∈ UW := um2 33 rfl rfl
theorem u_274 : (Cond.code ({ cls := "FanTalk$Walk", name := "<init>", desc := "()V" } : MethodName) prog_12_method_1_code (1 : Nat) (Option.none : Option ClassFile.FieldType)) ∈ UW := um2 34 rfl rfl
theorem u_275 : (Cond.methodLink "FanTalk$Walk" (3 : Nat) ({ cls := "java/lang/Object", name := "<init>", desc := "()V" } : MethodName)) ∈ UW := um2 35 rfl rfl
theorem u_276 : (Cond.fieldLink "FanTalk$Walk" (9 : Nat) "FanTalk$Walk" "states" "[I") ∈ UW := um2 36 rfl rfl
theorem u_277 : (Cond.fieldLink "FanTalk" (291 : Nat) "FanTalk$Walk" "states" "[I") ∈ UW := um2 37 rfl rfl
theorem u_278 : (Cond.fieldLink "FanTalk$Walk" (21 : Nat) "FanTalk$Walk" "beats" "I") ∈ UW := um2 38 rfl rfl
theorem u_279 : (Cond.fieldLink "FanTalk" (294 : Nat) "FanTalk$Walk" "beats" "I") ∈ UW := um2 39 rfl rfl
theorem u_284 : (Cond.superclass "FanTalk$Walk" "java/lang/Object") ∈ UW := um2 44 rfl rfl
theorem u_285 : (Cond.fieldLink "FanTalk" (10 : Nat) "FanTalk" "now" "LFanTalk$Talk;") ∈ UW := um2 45 rfl rfl
theorem u_286 : (Cond.fieldLink "FanTalk" (16 : Nat) "FanTalk" "images" "[LFanTalk$Talk;") ∈ UW := um2 46 rfl rfl
theorem u_287 : (Cond.fieldLink "FanTalk" (20 : Nat) "FanTalk" "kept" "[Z") ∈ UW := um2 47 rfl rfl
theorem u_288 : (Cond.fieldLink "FanTalk" (27 : Nat) "FanTalk" "script" "LFanTalk$Script;") ∈ UW := um2 48 rfl rfl
theorem u_289 : (Cond.fieldLink "FanTalk" (31 : Nat) "FanTalk" "refusals" "[I") ∈ UW := um2 49 rfl rfl
theorem u_290 : (Cond.fieldLink "FanTalk" (50 : Nat) "FanTalk" "readers" "[LFanTalk$Friend;") ∈ UW := um2 50 rfl rfl
theorem u_291 : (Cond.fieldLink "FanTalk" (57 : Nat) "FanTalk" "walk" "LFanTalk$Walk;") ∈ UW := um2 51 rfl rfl
theorem u_292 : (Cond.fieldLink "FanTalk" (61 : Nat) "FanTalk" "drawn" "[I") ∈ UW := um2 52 rfl rfl
theorem u_293 : (Cond.fieldLink "FanTalk" (64 : Nat) "FanTalk" "first" "[I") ∈ UW := um2 53 rfl rfl
theorem u_294 : (Cond.fieldLink "FanTalk" (67 : Nat) "FanTalk" "spelt" "[I") ∈ UW := um2 54 rfl rfl
theorem u_295 : (Cond.fieldLink "FanTalk" (70 : Nat) "FanTalk" "air" "[I") ∈ UW := um2 55 rfl rfl
theorem u_318 : (Cond.superclass "FanTalk" "java/lang/Object") ∈ UW := um2 78 rfl rfl
theorem u_319 : (Cond.methodLink "FanTalkLaw" (13 : Nat) ({ cls := "FanTalk", name := "code", desc := "()I" } : MethodName)) ∈ UW := um2 79 rfl rfl
theorem u_320 : (Cond.instanceMethod ({ cls := "FanTalk", name := "code", desc := "()I" } : MethodName)) ∈ UW := um2 80 rfl rfl
theorem u_321 : (Cond.selects "FanTalk" ({ cls := "FanTalk", name := "code", desc := "()I" } : MethodName) ({ cls := "FanTalk", name := "code", desc := "()I" } : MethodName)) ∈ UW := um2 81 rfl rfl
theorem u_322 : (Cond.code ({ cls := "FanTalk", name := "code", desc := "()I" } : MethodName) prog_1_method_2_code (1 : Nat) (Option.some ClassFile.FieldType.int)) ∈ UW := um2 82 rfl rfl
theorem u_323 : (Cond.methodLink "FanTalk" (82 : Nat) ({ cls := "FanTalk", name := "refused", desc := "(II)I" } : MethodName)) ∈ UW := um2 83 rfl rfl
theorem u_325 : (Cond.instanceMethod ({ cls := "FanTalk", name := "refused", desc := "(II)I" } : MethodName)) ∈ UW := um2 85 rfl rfl
theorem u_326 : (Cond.code ({ cls := "FanTalk", name := "refused", desc := "(II)I" } : MethodName) prog_1_method_33_code (3 : Nat) (Option.some ClassFile.FieldType.int)) ∈ UW := um2 86 rfl rfl
theorem u_327 : (Cond.methodLink "FanTalk" (94 : Nat) ({ cls := "FanTalk$Codes", name := "open", desc := "()I" } : MethodName)) ∈ UW := um2 87 rfl rfl
theorem u_328 : (Cond.instanceMethod ({ cls := "FanTalk$Codes", name := "open", desc := "()I" } : MethodName)) ∈ UW := um2 88 rfl rfl
theorem u_329 : (Cond.selects "FanTalk$Codes" ({ cls := "FanTalk$Codes", name := "open", desc := "()I" } : MethodName) ({ cls := "FanTalk$Codes", name := "open", desc := "()I" } : MethodName)) ∈ UW := um2 89 rfl rfl
theorem u_330 : (Cond.code ({ cls := "FanTalk$Codes", name := "open", desc := "()I" } : MethodName) prog_4_method_3_code (1 : Nat) (Option.some ClassFile.FieldType.int)) ∈ UW := um2 90 rfl rfl
theorem u_331 : (Cond.methodLink "FanTalkLaw" (18 : Nat) ({ cls := "FanTalk", name := "entry", desc := "(III)I" } : MethodName)) ∈ UW := um2 91 rfl rfl
theorem u_332 : (Cond.instanceMethod ({ cls := "FanTalk", name := "entry", desc := "(III)I" } : MethodName)) ∈ UW := um2 92 rfl rfl
theorem u_333 : (Cond.selects "FanTalk" ({ cls := "FanTalk", name := "entry", desc := "(III)I" } : MethodName) ({ cls := "FanTalk", name := "entry", desc := "(III)I" } : MethodName)) ∈ UW := um2 93 rfl rfl
theorem u_334 : (Cond.code ({ cls := "FanTalk", name := "entry", desc := "(III)I" } : MethodName) prog_1_method_3_code (5 : Nat) (Option.some ClassFile.FieldType.int)) ∈ UW := um2 94 rfl rfl
theorem u_335 : (Cond.methodLink "FanTalk" (98 : Nat) ({ cls := "FanTalk$Rows", name := "beats", desc := "(I)I" } : MethodName)) ∈ UW := um2 95 rfl rfl
theorem u_336 : (Cond.static ({ cls := "FanTalk$Rows", name := "beats", desc := "(I)I" } : MethodName)) ∈ UW := um2 96 rfl rfl
theorem u_337 : (Cond.code ({ cls := "FanTalk$Rows", name := "beats", desc := "(I)I" } : MethodName) prog_9_method_2_code (3 : Nat) (Option.some ClassFile.FieldType.int)) ∈ UW := um2 97 rfl rfl
theorem u_338 : (Cond.methodLink "FanTalk" (104 : Nat) ({ cls := "FanTalk", name := "isCode", desc := "(I)Z" } : MethodName)) ∈ UW := um2 98 rfl rfl
theorem u_340 : (Cond.instanceMethod ({ cls := "FanTalk", name := "isCode", desc := "(I)Z" } : MethodName)) ∈ UW := um2 100 rfl rfl
theorem u_341 : (Cond.code ({ cls := "FanTalk", name := "isCode", desc := "(I)Z" } : MethodName) prog_1_method_30_code (2 : Nat) (Option.some ClassFile.FieldType.boolean)) ∈ UW := um2 101 rfl rfl
theorem u_342 : (Cond.methodLink "FanTalk" (108 : Nat) ({ cls := "FanTalk", name := "isWord", desc := "(I)Z" } : MethodName)) ∈ UW := um2 102 rfl rfl
theorem u_343 : (Cond.static ({ cls := "FanTalk", name := "isWord", desc := "(I)Z" } : MethodName)) ∈ UW := um2 103 rfl rfl
theorem u_344 : (Cond.code ({ cls := "FanTalk", name := "isWord", desc := "(I)Z" } : MethodName) prog_1_method_31_code (1 : Nat) (Option.some ClassFile.FieldType.boolean)) ∈ UW := um2 104 rfl rfl
theorem u_345 : (Cond.methodLink "FanTalk" (111 : Nat) ({ cls := "FanTalk$Codes", name := "has", desc := "(II)Z" } : MethodName)) ∈ UW := um2 105 rfl rfl
theorem u_346 : (Cond.instanceMethod ({ cls := "FanTalk$Codes", name := "has", desc := "(II)Z" } : MethodName)) ∈ UW := um2 106 rfl rfl
theorem u_347 : (Cond.selects "FanTalk$Codes" ({ cls := "FanTalk$Codes", name := "has", desc := "(II)Z" } : MethodName) ({ cls := "FanTalk$Codes", name := "has", desc := "(II)Z" } : MethodName)) ∈ UW := um2 107 rfl rfl
theorem u_348 : (Cond.code ({ cls := "FanTalk$Codes", name := "has", desc := "(II)Z" } : MethodName) prog_4_method_4_code (4 : Nat) (Option.some ClassFile.FieldType.boolean)) ∈ UW := um2 108 rfl rfl
theorem u_349 : (Cond.methodLink "FanTalk" (118 : Nat) ({ cls := "FanTalk$Codes", name := "add", desc := "(III)I" } : MethodName)) ∈ UW := um2 109 rfl rfl
theorem u_350 : (Cond.instanceMethod ({ cls := "FanTalk$Codes", name := "add", desc := "(III)I" } : MethodName)) ∈ UW := um2 110 rfl rfl
theorem u_351 : (Cond.selects "FanTalk$Codes" ({ cls := "FanTalk$Codes", name := "add", desc := "(III)I" } : MethodName) ({ cls := "FanTalk$Codes", name := "add", desc := "(III)I" } : MethodName)) ∈ UW := um2 111 rfl rfl
theorem u_352 : (Cond.code ({ cls := "FanTalk$Codes", name := "add", desc := "(III)I" } : MethodName) prog_4_method_5_code (4 : Nat) (Option.some ClassFile.FieldType.int)) ∈ UW := um2 112 rfl rfl
theorem u_353 : (Cond.methodLink "FanTalk$Codes" (34 : Nat) ({ cls := "FanTalk$Codes", name := "put", desc := "(IIII)V" } : MethodName)) ∈ UW := um2 113 rfl rfl
theorem u_355 : (Cond.instanceMethod ({ cls := "FanTalk$Codes", name := "put", desc := "(IIII)V" } : MethodName)) ∈ UW := um2 115 rfl rfl
theorem u_356 : (Cond.code ({ cls := "FanTalk$Codes", name := "put", desc := "(IIII)V" } : MethodName) prog_4_method_6_code (5 : Nat) (Option.none : Option ClassFile.FieldType)) ∈ UW := um2 116 rfl rfl
theorem u_357 : (Cond.methodLink "FanTalkLaw" (23 : Nat) ({ cls := "FanTalk", name := "told", desc := "(III)I" } : MethodName)) ∈ UW := um2 117 rfl rfl
theorem u_358 : (Cond.instanceMethod ({ cls := "FanTalk", name := "told", desc := "(III)I" } : MethodName)) ∈ UW := um2 118 rfl rfl
theorem u_359 : (Cond.selects "FanTalk" ({ cls := "FanTalk", name := "told", desc := "(III)I" } : MethodName) ({ cls := "FanTalk", name := "told", desc := "(III)I" } : MethodName)) ∈ UW := um2 119 rfl rfl
theorem u_360 : (Cond.code ({ cls := "FanTalk", name := "told", desc := "(III)I" } : MethodName) prog_1_method_4_code (5 : Nat) (Option.some ClassFile.FieldType.int)) ∈ UW := um2 120 rfl rfl
theorem u_361 : (Cond.methodLink "FanTalkLaw" (27 : Nat) ({ cls := "FanTalk", name := "draughts", desc := "(I)I" } : MethodName)) ∈ UW := um2 121 rfl rfl
theorem u_362 : (Cond.instanceMethod ({ cls := "FanTalk", name := "draughts", desc := "(I)I" } : MethodName)) ∈ UW := um2 122 rfl rfl
theorem u_363 : (Cond.selects "FanTalk" ({ cls := "FanTalk", name := "draughts", desc := "(I)I" } : MethodName) ({ cls := "FanTalk", name := "draughts", desc := "(I)I" } : MethodName)) ∈ UW := um2 123 rfl rfl
theorem u_364 : (Cond.code ({ cls := "FanTalk", name := "draughts", desc := "(I)I" } : MethodName) prog_1_method_5_code (3 : Nat) (Option.some ClassFile.FieldType.int)) ∈ UW := um2 124 rfl rfl
theorem u_365 : (Cond.methodLink "FanTalkLaw" (34 : Nat) ({ cls := "FanTalk", name := "type", desc := "(JI)I" } : MethodName)) ∈ UW := um2 125 rfl rfl
theorem u_366 : (Cond.instanceMethod ({ cls := "FanTalk", name := "type", desc := "(JI)I" } : MethodName)) ∈ UW := um2 126 rfl rfl
theorem u_367 : (Cond.selects "FanTalk" ({ cls := "FanTalk", name := "type", desc := "(JI)I" } : MethodName) ({ cls := "FanTalk", name := "type", desc := "(JI)I" } : MethodName)) ∈ UW := um2 127 rfl rfl
theorem u_368 : (Cond.code ({ cls := "FanTalk", name := "type", desc := "(JI)I" } : MethodName) prog_1_method_6_code (5 : Nat) (Option.some ClassFile.FieldType.int)) ∈ UW := um2 128 rfl rfl
theorem u_369 : (Cond.methodLink "FanTalk" (134 : Nat) ({ cls := "FanTalk$Script", name := "put", desc := "(I)V" } : MethodName)) ∈ UW := um2 129 rfl rfl
theorem u_370 : (Cond.instanceMethod ({ cls := "FanTalk$Script", name := "put", desc := "(I)V" } : MethodName)) ∈ UW := um2 130 rfl rfl
theorem u_371 : (Cond.selects "FanTalk$Script" ({ cls := "FanTalk$Script", name := "put", desc := "(I)V" } : MethodName) ({ cls := "FanTalk$Script", name := "put", desc := "(I)V" } : MethodName)) ∈ UW := um2 131 rfl rfl
theorem u_372 : (Cond.code ({ cls := "FanTalk$Script", name := "put", desc := "(I)V" } : MethodName) prog_10_method_2_code (2 : Nat) (Option.none : Option ClassFile.FieldType)) ∈ UW := um2 132 rfl rfl
theorem u_373 : (Cond.methodLink "FanTalkLaw" (39 : Nat) ({ cls := "FanTalk", name := "clear", desc := "()I" } : MethodName)) ∈ UW := um2 133 rfl rfl
theorem u_374 : (Cond.instanceMethod ({ cls := "FanTalk", name := "clear", desc := "()I" } : MethodName)) ∈ UW := um2 134 rfl rfl
theorem u_375 : (Cond.selects "FanTalk" ({ cls := "FanTalk", name := "clear", desc := "()I" } : MethodName) ({ cls := "FanTalk", name := "clear", desc := "()I" } : MethodName)) ∈ UW := um2 135 rfl rfl
theorem u_376 : (Cond.code ({ cls := "FanTalk", name := "clear", desc := "()I" } : MethodName) prog_1_method_7_code (2 : Nat) (Option.some ClassFile.FieldType.int)) ∈ UW := um2 136 rfl rfl
theorem u_377 : (Cond.methodLink "FanTalkLaw" (43 : Nat) ({ cls := "FanTalk", name := "read", desc := "()I" } : MethodName)) ∈ UW := um2 137 rfl rfl
theorem u_378 : (Cond.instanceMethod ({ cls := "FanTalk", name := "read", desc := "()I" } : MethodName)) ∈ UW := um2 138 rfl rfl
theorem u_379 : (Cond.selects "FanTalk" ({ cls := "FanTalk", name := "read", desc := "()I" } : MethodName) ({ cls := "FanTalk", name := "read", desc := "()I" } : MethodName)) ∈ UW := um2 139 rfl rfl
theorem u_380 : (Cond.code ({ cls := "FanTalk", name := "read", desc := "()I" } : MethodName) prog_1_method_8_code (2 : Nat) (Option.some ClassFile.FieldType.int)) ∈ UW := um2 140 rfl rfl
theorem u_381 : (Cond.methodLink "FanTalk" (138 : Nat) ({ cls := "FanTalk$Script", name := "fault", desc := "()I" } : MethodName)) ∈ UW := um2 141 rfl rfl
theorem u_382 : (Cond.instanceMethod ({ cls := "FanTalk$Script", name := "fault", desc := "()I" } : MethodName)) ∈ UW := um2 142 rfl rfl
theorem u_383 : (Cond.selects "FanTalk$Script" ({ cls := "FanTalk$Script", name := "fault", desc := "()I" } : MethodName) ({ cls := "FanTalk$Script", name := "fault", desc := "()I" } : MethodName)) ∈ UW := um2 143 rfl rfl
theorem u_384 : (Cond.code ({ cls := "FanTalk$Script", name := "fault", desc := "()I" } : MethodName) prog_10_method_3_code (2 : Nat) (Option.some ClassFile.FieldType.int)) ∈ UW := um2 144 rfl rfl
theorem u_385 : (Cond.methodLink "FanTalk$Script" (38 : Nat) ({ cls := "FanTalk$Script", name := "goOn", desc := "()V" } : MethodName)) ∈ UW := um2 145 rfl rfl
theorem u_387 : (Cond.instanceMethod ({ cls := "FanTalk$Script", name := "goOn", desc := "()V" } : MethodName)) ∈ UW := um2 147 rfl rfl
theorem u_388 : (Cond.code ({ cls := "FanTalk$Script", name := "goOn", desc := "()V" } : MethodName) prog_10_method_10_code (1 : Nat) (Option.none : Option ClassFile.FieldType)) ∈ UW := um2 148 rfl rfl
theorem u_389 : (Cond.methodLink "FanTalk$Script" (100 : Nat) ({ cls := "FanTalk$Script", name := "isLetter", desc := "(I)Z" } : MethodName)) ∈ UW := um2 149 rfl rfl
theorem u_390 : (Cond.static ({ cls := "FanTalk$Script", name := "isLetter", desc := "(I)Z" } : MethodName)) ∈ UW := um2 150 rfl rfl
theorem u_391 : (Cond.code ({ cls := "FanTalk$Script", name := "isLetter", desc := "(I)Z" } : MethodName) prog_10_method_13_code (1 : Nat) (Option.some ClassFile.FieldType.boolean)) ∈ UW := um2 151 rfl rfl
theorem u_392 : (Cond.methodLink "FanTalk$Script" (103 : Nat) ({ cls := "FanTalk$Script", name := "goOverLetters", desc := "()V" } : MethodName)) ∈ UW := um2 152 rfl rfl
theorem u_394 : (Cond.instanceMethod ({ cls := "FanTalk$Script", name := "goOverLetters", desc := "()V" } : MethodName)) ∈ UW := um2 154 rfl rfl
theorem u_395 : (Cond.code ({ cls := "FanTalk$Script", name := "goOverLetters", desc := "()V" } : MethodName) prog_10_method_11_code (1 : Nat) (Option.none : Option ClassFile.FieldType)) ∈ UW := um2 155 rfl rfl
theorem u_396 : (Cond.methodLink "FanTalk$Script" (106 : Nat) ({ cls := "FanTalk$Script", name := "isFigure", desc := "(I)Z" } : MethodName)) ∈ UW := um2 156 rfl rfl
theorem u_397 : (Cond.static ({ cls := "FanTalk$Script", name := "isFigure", desc := "(I)Z" } : MethodName)) ∈ UW := um2 157 rfl rfl
theorem u_398 : (Cond.code ({ cls := "FanTalk$Script", name := "isFigure", desc := "(I)Z" } : MethodName) prog_10_method_14_code (1 : Nat) (Option.some ClassFile.FieldType.boolean)) ∈ UW := um2 158 rfl rfl
theorem u_399 : (Cond.methodLink "FanTalk$Script" (109 : Nat) ({ cls := "FanTalk$Script", name := "goOverFigures", desc := "()V" } : MethodName)) ∈ UW := um2 159 rfl rfl
theorem u_401 : (Cond.instanceMethod ({ cls := "FanTalk$Script", name := "goOverFigures", desc := "()V" } : MethodName)) ∈ UW := um2 161 rfl rfl
theorem u_402 : (Cond.code ({ cls := "FanTalk$Script", name := "goOverFigures", desc := "()V" } : MethodName) prog_10_method_12_code (1 : Nat) (Option.none : Option ClassFile.FieldType)) ∈ UW := um2 162 rfl rfl
theorem u_403 : (Cond.methodLink "FanTalk$Script" (44 : Nat) ({ cls := "FanTalk$Script", name := "isItem", desc := "()Z" } : MethodName)) ∈ UW := um2 163 rfl rfl
theorem u_405 : (Cond.instanceMethod ({ cls := "FanTalk$Script", name := "isItem", desc := "()Z" } : MethodName)) ∈ UW := um2 165 rfl rfl
theorem u_406 : (Cond.code ({ cls := "FanTalk$Script", name := "isItem", desc := "()Z" } : MethodName) prog_10_method_4_code (1 : Nat) (Option.some ClassFile.FieldType.boolean)) ∈ UW := um2 166 rfl rfl
theorem u_408 : (Cond.methodLink "FanTalk$Script" (53 : Nat) ({ cls := "FanTalk$Script", name := "isName", desc := "(Ljava/lang/String;)Z" } : MethodName)) ∈ UW := um2 168 rfl rfl
theorem u_410 : (Cond.instanceMethod ({ cls := "FanTalk$Script", name := "isName", desc := "(Ljava/lang/String;)Z" } : MethodName)) ∈ UW := um2 170 rfl rfl
theorem u_411 : (Cond.code ({ cls := "FanTalk$Script", name := "isName", desc := "(Ljava/lang/String;)Z" } : MethodName) prog_10_method_9_code (3 : Nat) (Option.some ClassFile.FieldType.boolean)) ∈ UW := um2 171 rfl rfl
theorem u_412 : (Cond.methodLink "FanTalk$Script" (92 : Nat) ({ cls := "java/lang/String", name := "length", desc := "()I" } : MethodName)) ∈ UW := um2 172 rfl rfl
theorem u_413 : (Cond.instanceMethod ({ cls := "java/lang/String", name := "length", desc := "()I" } : MethodName)) ∈ UW := um2 173 rfl rfl
theorem u_414 : (Cond.selects "java/lang/String" ({ cls := "java/lang/String", name := "length", desc := "()I" } : MethodName) ({ cls := "java/lang/String", name := "length", desc := "()I" } : MethodName)) ∈ UW := um2 174 rfl rfl
theorem u_415 : (Cond.code ({ cls := "java/lang/String", name := "length", desc := "()I" } : MethodName) prog_16_method_54_code (1 : Nat) (Option.some ClassFile.FieldType.int)) ∈ UW := um2 175 rfl rfl
theorem u_416 : (Cond.methodLink "java/lang/String" (335 : Nat) ({ cls := "java/lang/String", name := "coder", desc := "()B" } : MethodName)) ∈ UW := um2 176 rfl rfl
theorem u_417 : (Cond.instanceMethod ({ cls := "java/lang/String", name := "coder", desc := "()B" } : MethodName)) ∈ UW := um2 177 rfl rfl
theorem u_418 : (Cond.selects "java/lang/String" ({ cls := "java/lang/String", name := "coder", desc := "()B" } : MethodName) ({ cls := "java/lang/String", name := "coder", desc := "()B" } : MethodName)) ∈ UW := um2 178 rfl rfl
theorem u_419 : (Cond.code ({ cls := "java/lang/String", name := "coder", desc := "()B" } : MethodName) prog_16_method_152_code (1 : Nat) (Option.some ClassFile.FieldType.byte)) ∈ UW := um2 179 rfl rfl
theorem u_420 : (Cond.fieldLink "java/lang/String" (38 : Nat) "java/lang/String" "COMPACT_STRINGS" "Z") ∈ UW := um2 180 rfl rfl
theorem u_422 : (Cond.methodLink "FanTalk$Script" (96 : Nat) ({ cls := "java/lang/String", name := "charAt", desc := "(I)C" } : MethodName)) ∈ UW := um2 182 rfl rfl
theorem u_423 : (Cond.instanceMethod ({ cls := "java/lang/String", name := "charAt", desc := "(I)C" } : MethodName)) ∈ UW := um2 183 rfl rfl
theorem u_424 : (Cond.selects "java/lang/String" ({ cls := "java/lang/String", name := "charAt", desc := "(I)C" } : MethodName) ({ cls := "java/lang/String", name := "charAt", desc := "(I)C" } : MethodName)) ∈ UW := um2 184 rfl rfl
theorem u_425 : (Cond.code ({ cls := "java/lang/String", name := "charAt", desc := "(I)C" } : MethodName) prog_16_method_56_code (2 : Nat) (Option.some ClassFile.FieldType.char)) ∈ UW := um2 185 rfl rfl
theorem u_426 : (Cond.methodLink "java/lang/String" (492 : Nat) ({ cls := "java/lang/String", name := "isLatin1", desc := "()Z" } : MethodName)) ∈ UW := um2 186 rfl rfl
theorem u_427 : (Cond.instanceMethod ({ cls := "java/lang/String", name := "isLatin1", desc := "()Z" } : MethodName)) ∈ UW := um2 187 rfl rfl
theorem u_428 : (Cond.selects "java/lang/String" ({ cls := "java/lang/String", name := "isLatin1", desc := "()Z" } : MethodName) ({ cls := "java/lang/String", name := "isLatin1", desc := "()Z" } : MethodName)) ∈ UW := um2 188 rfl rfl
theorem u_429 : (Cond.code ({ cls := "java/lang/String", name := "isLatin1", desc := "()Z" } : MethodName) prog_16_method_154_code (1 : Nat) (Option.some ClassFile.FieldType.boolean)) ∈ UW := um2 189 rfl rfl
theorem u_430 : (Cond.methodLink "java/lang/String" (495 : Nat) ({ cls := "java/lang/StringLatin1", name := "charAt", desc := "([BI)C" } : MethodName)) ∈ UW := um2 190 rfl rfl
theorem u_431 : (Cond.static ({ cls := "java/lang/StringLatin1", name := "charAt", desc := "([BI)C" } : MethodName)) ∈ UW := um2 191 rfl rfl
theorem u_432 : (Cond.code ({ cls := "java/lang/StringLatin1", name := "charAt", desc := "([BI)C" } : MethodName) prog_17_method_2_code (2 : Nat) (Option.some ClassFile.FieldType.char)) ∈ UW := um2 192 rfl rfl
theorem u_433 : (Cond.methodLink "java/lang/StringLatin1" (9 : Nat) ({ cls := "java/lang/String", name := "checkIndex", desc := "(II)V" } : MethodName)) ∈ UW := um2 193 rfl rfl
theorem u_434 : (Cond.static ({ cls := "java/lang/String", name := "checkIndex", desc := "(II)V" } : MethodName)) ∈ UW := um2 194 rfl rfl
theorem u_435 : (Cond.code ({ cls := "java/lang/String", name := "checkIndex", desc := "(II)V" } : MethodName) prog_16_method_155_code (2 : Nat) (Option.none : Option ClassFile.FieldType)) ∈ UW := um2 195 rfl rfl
theorem u_436 : (Cond.fieldLink "java/lang/String" (1053 : Nat) "jdk/internal/util/Preconditions" "SIOOBE_FORMATTER" "Ljava/util/function/BiFunction;") ∈ UW := um2 196 rfl rfl
theorem u_438 : (Cond.methodLink "java/lang/String" (1059 : Nat) ({ cls := "jdk/internal/util/Preconditions", name := "checkIndex", desc := "(IILjava/util/function/BiFunction;)I" } : MethodName)) ∈ UW := um2 198 rfl rfl
theorem u_439 : (Cond.static ({ cls := "jdk/internal/util/Preconditions", name := "checkIndex", desc := "(IILjava/util/function/BiFunction;)I" } : MethodName)) ∈ UW := um2 199 rfl rfl
theorem u_440 : (Cond.code ({ cls := "jdk/internal/util/Preconditions", name := "checkIndex", desc := "(IILjava/util/function/BiFunction;)I" } : MethodName) prog_20_method_11_code (3 : Nat) (Option.some ClassFile.FieldType.int)) ∈ UW := um2 200 rfl rfl
theorem u_441 : (Cond.methodLink "java/lang/String" (498 : Nat) ({ cls := "java/lang/StringUTF16", name := "charAt", desc := "([BI)C" } : MethodName)) ∈ UW := um2 201 rfl rfl
theorem u_442 : (Cond.static ({ cls := "java/lang/StringUTF16", name := "charAt", desc := "([BI)C" } : MethodName)) ∈ UW := um2 202 rfl rfl
theorem u_443 : (Cond.code ({ cls := "java/lang/StringUTF16", name := "charAt", desc := "([BI)C" } : MethodName) prog_18_method_83_code (2 : Nat) (Option.some ClassFile.FieldType.char)) ∈ UW := um2 203 rfl rfl
theorem u_444 : (Cond.methodLink "java/lang/StringUTF16" (67 : Nat) ({ cls := "java/lang/StringUTF16", name := "checkIndex", desc := "(I[B)V" } : MethodName)) ∈ UW := um2 204 rfl rfl
theorem u_445 : (Cond.static ({ cls := "java/lang/StringUTF16", name := "checkIndex", desc := "(I[B)V" } : MethodName)) ∈ UW := um2 205 rfl rfl
theorem u_446 : (Cond.code ({ cls := "java/lang/StringUTF16", name := "checkIndex", desc := "(I[B)V" } : MethodName) prog_18_method_91_code (2 : Nat) (Option.none : Option ClassFile.FieldType)) ∈ UW := um2 206 rfl rfl
theorem u_447 : (Cond.methodLink "java/lang/StringUTF16" (48 : Nat) ({ cls := "java/lang/StringUTF16", name := "length", desc := "([B)I" } : MethodName)) ∈ UW := um2 207 rfl rfl
theorem u_448 : (Cond.static ({ cls := "java/lang/StringUTF16", name := "length", desc := "([B)I" } : MethodName)) ∈ UW := um2 208 rfl rfl
theorem u_449 : (Cond.code ({ cls := "java/lang/StringUTF16", name := "length", desc := "([B)I" } : MethodName) prog_18_method_6_code (1 : Nat) (Option.some ClassFile.FieldType.int)) ∈ UW := um2 209 rfl rfl
theorem u_450 : (Cond.methodLink "java/lang/StringUTF16" (414 : Nat) ({ cls := "java/lang/String", name := "checkIndex", desc := "(II)V" } : MethodName)) ∈ UW := um2 210 rfl rfl
theorem u_451 : (Cond.methodLink "java/lang/StringUTF16" (71 : Nat) ({ cls := "java/lang/StringUTF16", name := "getChar", desc := "([BI)C" } : MethodName)) ∈ UW := um2 211 rfl rfl
theorem u_452 : (Cond.static ({ cls := "java/lang/StringUTF16", name := "getChar", desc := "([BI)C" } : MethodName)) ∈ UW := um2 212 rfl rfl
theorem u_453 : (Cond.code ({ cls := "java/lang/StringUTF16", name := "getChar", desc := "([BI)C" } : MethodName) prog_18_method_5_code (2 : Nat) (Option.some ClassFile.FieldType.char)) ∈ UW := um2 213 rfl rfl
theorem u_454 : (Cond.fieldLink "java/lang/StringUTF16" (44 : Nat) "java/lang/StringUTF16" "$assertionsDisabled" "Z") ∈ UW := um2 214 rfl rfl
theorem u_456 : (Cond.fieldLink "java/lang/StringUTF16" (59 : Nat) "java/lang/StringUTF16" "HI_BYTE_SHIFT" "I") ∈ UW := um2 216 rfl rfl
theorem u_458 : (Cond.fieldLink "java/lang/StringUTF16" (63 : Nat) "java/lang/StringUTF16" "LO_BYTE_SHIFT" "I") ∈ UW := um2 218 rfl rfl
theorem u_460 : (Cond.methodLink "FanTalk$Script" (57 : Nat) ({ cls := "FanTalk$Script", name := "isCodeItem", desc := "()Z" } : MethodName)) ∈ UW := um2 220 rfl rfl
theorem u_462 : (Cond.instanceMethod ({ cls := "FanTalk$Script", name := "isCodeItem", desc := "()Z" } : MethodName)) ∈ UW := um2 222 rfl rfl
theorem u_463 : (Cond.code ({ cls := "FanTalk$Script", name := "isCodeItem", desc := "()Z" } : MethodName) prog_10_method_5_code (1 : Nat) (Option.some ClassFile.FieldType.boolean)) ∈ UW := um2 223 rfl rfl
theorem u_464 : (Cond.methodLink "FanTalk$Script" (70 : Nat) ({ cls := "FanTalk$Codes", name := "open", desc := "()I" } : MethodName)) ∈ UW := um2 224 rfl rfl
theorem u_466 : (Cond.methodLink "FanTalk$Script" (62 : Nat) ({ cls := "FanTalk$Script", name := "isEntryItem", desc := "()Z" } : MethodName)) ∈ UW := um2 226 rfl rfl
theorem u_468 : (Cond.instanceMethod ({ cls := "FanTalk$Script", name := "isEntryItem", desc := "()Z" } : MethodName)) ∈ UW := um2 228 rfl rfl
theorem u_469 : (Cond.code ({ cls := "FanTalk$Script", name := "isEntryItem", desc := "()Z" } : MethodName) prog_10_method_6_code (5 : Nat) (Option.some ClassFile.FieldType.boolean)) ∈ UW := um2 229 rfl rfl
theorem u_470 : (Cond.methodLink "FanTalk$Script" (77 : Nat) ({ cls := "FanTalk$Script", name := "isNumberBelow", desc := "(I)Z" } : MethodName)) ∈ UW := um2 230 rfl rfl
theorem u_472 : (Cond.instanceMethod ({ cls := "FanTalk$Script", name := "isNumberBelow", desc := "(I)Z" } : MethodName)) ∈ UW := um2 232 rfl rfl
theorem u_473 : (Cond.code ({ cls := "FanTalk$Script", name := "isNumberBelow", desc := "(I)Z" } : MethodName) prog_10_method_8_code (2 : Nat) (Option.some ClassFile.FieldType.boolean)) ∈ UW := um2 233 rfl rfl
theorem u_474 : (Cond.methodLink "FanTalk$Script" (84 : Nat) ({ cls := "FanTalk$Codes", name := "has", desc := "(II)Z" } : MethodName)) ∈ UW := um2 234 rfl rfl
theorem u_475 : (Cond.methodLink "FanTalk$Script" (88 : Nat) ({ cls := "FanTalk$Codes", name := "add", desc := "(III)I" } : MethodName)) ∈ UW := um2 235 rfl rfl
theorem u_477 : (Cond.methodLink "FanTalk$Script" (67 : Nat) ({ cls := "FanTalk$Script", name := "isDraughtItem", desc := "()Z" } : MethodName)) ∈ UW := um2 237 rfl rfl
theorem u_479 : (Cond.instanceMethod ({ cls := "FanTalk$Script", name := "isDraughtItem", desc := "()Z" } : MethodName)) ∈ UW := um2 239 rfl rfl
theorem u_480 : (Cond.code ({ cls := "FanTalk$Script", name := "isDraughtItem", desc := "()Z" } : MethodName) prog_10_method_7_code (2 : Nat) (Option.some ClassFile.FieldType.boolean)) ∈ UW := um3 0 rfl rfl
theorem u_481 : (Cond.methodLink "FanTalk" (144 : Nat) ({ cls := "FanTalk$Codes", name := "take", desc := "(LFanTalk$Codes;)V" } : MethodName)) ∈ UW := um3 1 rfl rfl
theorem u_482 : (Cond.instanceMethod ({ cls := "FanTalk$Codes", name := "take", desc := "(LFanTalk$Codes;)V" } : MethodName)) ∈ UW := um3 2 rfl rfl
theorem u_483 : (Cond.selects "FanTalk$Codes" ({ cls := "FanTalk$Codes", name := "take", desc := "(LFanTalk$Codes;)V" } : MethodName) ({ cls := "FanTalk$Codes", name := "take", desc := "(LFanTalk$Codes;)V" } : MethodName)) ∈ UW := um3 3 rfl rfl
theorem u_484 : (Cond.code ({ cls := "FanTalk$Codes", name := "take", desc := "(LFanTalk$Codes;)V" } : MethodName) prog_4_method_2_code (2 : Nat) (Option.none : Option ClassFile.FieldType)) ∈ UW := um3 4 rfl rfl
theorem u_485 : (Cond.methodLink "FanTalk$Codes" (28 : Nat) ({ cls := "java/lang/System", name := "arraycopy", desc := "(Ljava/lang/Object;ILjava/lang/Object;II)V" } : MethodName)) ∈ UW := um3 5 rfl rfl
theorem u_486 : (Cond.static ({ cls := "java/lang/System", name := "arraycopy", desc := "(Ljava/lang/Object;ILjava/lang/Object;II)V" } : MethodName)) ∈ UW := um3 6 rfl rfl
theorem u_487 : (Cond.native ({ cls := "java/lang/System", name := "arraycopy", desc := "(Ljava/lang/Object;ILjava/lang/Object;II)V" } : MethodName)) ∈ UW := um3 7 rfl rfl
theorem u_488 : (Cond.arrayClass ClassFile.FieldType.byte) ∈ UW := um3 8 rfl rfl
theorem u_489 : (Cond.methodLink "FanTalkLaw" (47 : Nat) ({ cls := "FanTalk", name := "say", desc := "(I)I" } : MethodName)) ∈ UW := um3 9 rfl rfl
theorem u_490 : (Cond.instanceMethod ({ cls := "FanTalk", name := "say", desc := "(I)I" } : MethodName)) ∈ UW := um3 10 rfl rfl
theorem u_491 : (Cond.selects "FanTalk" ({ cls := "FanTalk", name := "say", desc := "(I)I" } : MethodName) ({ cls := "FanTalk", name := "say", desc := "(I)I" } : MethodName)) ∈ UW := um3 11 rfl rfl
theorem u_492 : (Cond.code ({ cls := "FanTalk", name := "say", desc := "(I)I" } : MethodName) prog_1_method_9_code (3 : Nat) (Option.some ClassFile.FieldType.int)) ∈ UW := um3 12 rfl rfl
theorem u_493 : (Cond.methodLink "FanTalk" (152 : Nat) ({ cls := "FanTalk$Rows", name := "spell", desc := "(II[II)V" } : MethodName)) ∈ UW := um3 13 rfl rfl
theorem u_494 : (Cond.static ({ cls := "FanTalk$Rows", name := "spell", desc := "(II[II)V" } : MethodName)) ∈ UW := um3 14 rfl rfl
theorem u_495 : (Cond.code ({ cls := "FanTalk$Rows", name := "spell", desc := "(II[II)V" } : MethodName) prog_9_method_3_code (6 : Nat) (Option.none : Option ClassFile.FieldType)) ∈ UW := um3 15 rfl rfl
theorem u_496 : (Cond.methodLink "FanTalk" (156 : Nat) ({ cls := "FanTalk$Rows", name := "isLawful", desc := "([II)Z" } : MethodName)) ∈ UW := um3 16 rfl rfl
theorem u_497 : (Cond.static ({ cls := "FanTalk$Rows", name := "isLawful", desc := "([II)Z" } : MethodName)) ∈ UW := um3 17 rfl rfl
theorem u_498 : (Cond.code ({ cls := "FanTalk$Rows", name := "isLawful", desc := "([II)Z" } : MethodName) prog_9_method_5_code (3 : Nat) (Option.some ClassFile.FieldType.boolean)) ∈ UW := um3 18 rfl rfl
theorem u_499 : (Cond.methodLink "FanTalk$Rows" (9 : Nat) ({ cls := "java/lang/Math", name := "abs", desc := "(I)I" } : MethodName)) ∈ UW := um3 19 rfl rfl
theorem u_500 : (Cond.static ({ cls := "java/lang/Math", name := "abs", desc := "(I)I" } : MethodName)) ∈ UW := um3 20 rfl rfl
theorem u_501 : (Cond.code ({ cls := "java/lang/Math", name := "abs", desc := "(I)I" } : MethodName) prog_15_method_59_code (1 : Nat) (Option.some ClassFile.FieldType.int)) ∈ UW := um3 21 rfl rfl
theorem u_502 : (Cond.methodLink "FanTalk" (163 : Nat) ({ cls := "java/lang/System", name := "arraycopy", desc := "(Ljava/lang/Object;ILjava/lang/Object;II)V" } : MethodName)) ∈ UW := um3 22 rfl rfl
theorem u_503 : (Cond.methodLink "FanTalkLaw" (51 : Nat) ({ cls := "FanTalk", name := "seen", desc := "(I)I" } : MethodName)) ∈ UW := um3 23 rfl rfl
theorem u_504 : (Cond.instanceMethod ({ cls := "FanTalk", name := "seen", desc := "(I)I" } : MethodName)) ∈ UW := um3 24 rfl rfl
theorem u_505 : (Cond.selects "FanTalk" ({ cls := "FanTalk", name := "seen", desc := "(I)I" } : MethodName) ({ cls := "FanTalk", name := "seen", desc := "(I)I" } : MethodName)) ∈ UW := um3 25 rfl rfl
theorem u_506 : (Cond.code ({ cls := "FanTalk", name := "seen", desc := "(I)I" } : MethodName) prog_1_method_10_code (2 : Nat) (Option.some ClassFile.FieldType.int)) ∈ UW := um3 26 rfl rfl
theorem u_507 : (Cond.methodLink "FanTalk" (171 : Nat) ({ cls := "FanTalk", name := "drawSaying", desc := "()V" } : MethodName)) ∈ UW := um3 27 rfl rfl
theorem u_509 : (Cond.instanceMethod ({ cls := "FanTalk", name := "drawSaying", desc := "()V" } : MethodName)) ∈ UW := um3 29 rfl rfl
theorem u_510 : (Cond.code ({ cls := "FanTalk", name := "drawSaying", desc := "()V" } : MethodName) prog_1_method_35_code (1 : Nat) (Option.none : Option ClassFile.FieldType)) ∈ UW := um3 30 rfl rfl
theorem u_511 : (Cond.methodLink "FanTalk" (277 : Nat) ({ cls := "FanTalk$Rows", name := "draw", desc := "([III[I)V" } : MethodName)) ∈ UW := um3 31 rfl rfl
theorem u_512 : (Cond.static ({ cls := "FanTalk$Rows", name := "draw", desc := "([III[I)V" } : MethodName)) ∈ UW := um3 32 rfl rfl
theorem u_513 : (Cond.code ({ cls := "FanTalk$Rows", name := "draw", desc := "([III[I)V" } : MethodName) prog_9_method_6_code (6 : Nat) (Option.none : Option ClassFile.FieldType)) ∈ UW := um3 33 rfl rfl
theorem u_514 : (Cond.methodLink "FanTalkLaw" (55 : Nat) ({ cls := "FanTalk", name := "reads", desc := "(III)I" } : MethodName)) ∈ UW := um3 34 rfl rfl
theorem u_515 : (Cond.instanceMethod ({ cls := "FanTalk", name := "reads", desc := "(III)I" } : MethodName)) ∈ UW := um3 35 rfl rfl
theorem u_516 : (Cond.selects "FanTalk" ({ cls := "FanTalk", name := "reads", desc := "(III)I" } : MethodName) ({ cls := "FanTalk", name := "reads", desc := "(III)I" } : MethodName)) ∈ UW := um3 36 rfl rfl
theorem u_517 : (Cond.code ({ cls := "FanTalk", name := "reads", desc := "(III)I" } : MethodName) prog_1_method_11_code (5 : Nat) (Option.some ClassFile.FieldType.int)) ∈ UW := um3 37 rfl rfl
theorem u_518 : (Cond.methodLink "FanTalk" (174 : Nat) ({ cls := "FanTalk", name := "isKind", desc := "(I)Z" } : MethodName)) ∈ UW := um3 38 rfl rfl
theorem u_519 : (Cond.static ({ cls := "FanTalk", name := "isKind", desc := "(I)Z" } : MethodName)) ∈ UW := um3 39 rfl rfl
theorem u_520 : (Cond.code ({ cls := "FanTalk", name := "isKind", desc := "(I)Z" } : MethodName) prog_1_method_32_code (1 : Nat) (Option.some ClassFile.FieldType.boolean)) ∈ UW := um3 40 rfl rfl
theorem u_521 : (Cond.methodLink "FanTalk" (177 : Nat) ({ cls := "FanTalk", name := "readSaying", desc := "(II)LFanTalk$Friend;" } : MethodName)) ∈ UW := um3 41 rfl rfl
theorem u_523 : (Cond.instanceMethod ({ cls := "FanTalk", name := "readSaying", desc := "(II)LFanTalk$Friend;" } : MethodName)) ∈ UW := um3 43 rfl rfl
theorem u_524 : (Cond.code ({ cls := "FanTalk", name := "readSaying", desc := "(II)LFanTalk$Friend;" } : MethodName) prog_1_method_36_code (4 : Nat) (Option.some (ClassFile.FieldType.object "FanTalk$Friend"))) ∈ UW := um3 44 rfl rfl
theorem u_525 : (Cond.methodLink "FanTalk" (211 : Nat) ({ cls := "FanTalk$Friend", name := "learn", desc := "(LFanTalk$Codes;I)V" } : MethodName)) ∈ UW := um3 45 rfl rfl
theorem u_526 : (Cond.instanceMethod ({ cls := "FanTalk$Friend", name := "learn", desc := "(LFanTalk$Codes;I)V" } : MethodName)) ∈ UW := um3 46 rfl rfl
theorem u_527 : (Cond.selects "FanTalk$Friend" ({ cls := "FanTalk$Friend", name := "learn", desc := "(LFanTalk$Codes;I)V" } : MethodName) ({ cls := "FanTalk$Friend", name := "learn", desc := "(LFanTalk$Codes;I)V" } : MethodName)) ∈ UW := um3 47 rfl rfl
theorem u_528 : (Cond.sameMethod "FanTalk$Friend" "FanTalk$Friend" "learn" "(LFanTalk$Codes;I)V") ∈ UW := um3 48 rfl rfl
theorem u_529 : (Cond.selects "FanTalk$Aunt" ({ cls := "FanTalk$Friend", name := "learn", desc := "(LFanTalk$Codes;I)V" } : MethodName) ({ cls := "FanTalk$Friend", name := "learn", desc := "(LFanTalk$Codes;I)V" } : MethodName)) ∈ UW := um3 49 rfl rfl
theorem u_530 : (Cond.selects "FanTalk$Chaperone" ({ cls := "FanTalk$Friend", name := "learn", desc := "(LFanTalk$Codes;I)V" } : MethodName) ({ cls := "FanTalk$Friend", name := "learn", desc := "(LFanTalk$Codes;I)V" } : MethodName)) ∈ UW := um3 50 rfl rfl
theorem u_531 : (Cond.selects "FanTalk$Hasty" ({ cls := "FanTalk$Friend", name := "learn", desc := "(LFanTalk$Codes;I)V" } : MethodName) ({ cls := "FanTalk$Friend", name := "learn", desc := "(LFanTalk$Codes;I)V" } : MethodName)) ∈ UW := um3 51 rfl rfl
theorem u_532 : (Cond.selects "FanTalk$Mirror" ({ cls := "FanTalk$Friend", name := "learn", desc := "(LFanTalk$Codes;I)V" } : MethodName) ({ cls := "FanTalk$Friend", name := "learn", desc := "(LFanTalk$Codes;I)V" } : MethodName)) ∈ UW := um3 52 rfl rfl
theorem u_533 : (Cond.code ({ cls := "FanTalk$Friend", name := "learn", desc := "(LFanTalk$Codes;I)V" } : MethodName) prog_5_method_4_code (5 : Nat) (Option.none : Option ClassFile.FieldType)) ∈ UW := um3 53 rfl rfl
theorem u_534 : (Cond.methodLink "FanTalk$Friend" (42 : Nat) ({ cls := "FanTalk$Rows", name := "beats", desc := "(I)I" } : MethodName)) ∈ UW := um3 54 rfl rfl
theorem u_535 : (Cond.methodLink "FanTalk$Friend" (48 : Nat) ({ cls := "FanTalk$Rows", name := "spell", desc := "(II[II)V" } : MethodName)) ∈ UW := um3 55 rfl rfl
theorem u_536 : (Cond.methodLink "FanTalk" (253 : Nat) ({ cls := "FanTalk$Friend", name := "listen", desc := "([II)V" } : MethodName)) ∈ UW := um3 56 rfl rfl
theorem u_537 : (Cond.instanceMethod ({ cls := "FanTalk$Friend", name := "listen", desc := "([II)V" } : MethodName)) ∈ UW := um3 57 rfl rfl
theorem u_538 : (Cond.selects "FanTalk$Friend" ({ cls := "FanTalk$Friend", name := "listen", desc := "([II)V" } : MethodName) ({ cls := "FanTalk$Friend", name := "listen", desc := "([II)V" } : MethodName)) ∈ UW := um3 58 rfl rfl
theorem u_539 : (Cond.sameMethod "FanTalk$Friend" "FanTalk$Friend" "listen" "([II)V") ∈ UW := um3 59 rfl rfl
theorem u_540 : (Cond.selects "FanTalk$Aunt" ({ cls := "FanTalk$Friend", name := "listen", desc := "([II)V" } : MethodName) ({ cls := "FanTalk$Friend", name := "listen", desc := "([II)V" } : MethodName)) ∈ UW := um3 60 rfl rfl
theorem u_541 : (Cond.selects "FanTalk$Chaperone" ({ cls := "FanTalk$Friend", name := "listen", desc := "([II)V" } : MethodName) ({ cls := "FanTalk$Friend", name := "listen", desc := "([II)V" } : MethodName)) ∈ UW := um3 61 rfl rfl
theorem u_542 : (Cond.selects "FanTalk$Hasty" ({ cls := "FanTalk$Friend", name := "listen", desc := "([II)V" } : MethodName) ({ cls := "FanTalk$Friend", name := "listen", desc := "([II)V" } : MethodName)) ∈ UW := um3 62 rfl rfl
theorem u_543 : (Cond.selects "FanTalk$Mirror" ({ cls := "FanTalk$Friend", name := "listen", desc := "([II)V" } : MethodName) ({ cls := "FanTalk$Friend", name := "listen", desc := "([II)V" } : MethodName)) ∈ UW := um3 63 rfl rfl
theorem u_544 : (Cond.code ({ cls := "FanTalk$Friend", name := "listen", desc := "([II)V" } : MethodName) prog_5_method_5_code (7 : Nat) (Option.none : Option ClassFile.FieldType)) ∈ UW := um3 64 rfl rfl
theorem u_545 : (Cond.methodLink "FanTalk$Friend" (52 : Nat) ({ cls := "java/lang/Math", name := "min", desc := "(II)I" } : MethodName)) ∈ UW := um3 65 rfl rfl
theorem u_546 : (Cond.static ({ cls := "java/lang/Math", name := "min", desc := "(II)I" } : MethodName)) ∈ UW := um3 66 rfl rfl
theorem u_547 : (Cond.code ({ cls := "java/lang/Math", name := "min", desc := "(II)I" } : MethodName) prog_15_method_69_code (2 : Nat) (Option.some ClassFile.FieldType.int)) ∈ UW := um3 67 rfl rfl
theorem u_548 : (Cond.methodLink "FanTalk$Friend" (58 : Nat) ({ cls := "FanTalk$Friend", name := "sees", desc := "(II)I" } : MethodName)) ∈ UW := um3 68 rfl rfl
theorem u_549 : (Cond.instanceMethod ({ cls := "FanTalk$Friend", name := "sees", desc := "(II)I" } : MethodName)) ∈ UW := um3 69 rfl rfl
theorem u_550 : (Cond.selects "FanTalk$Friend" ({ cls := "FanTalk$Friend", name := "sees", desc := "(II)I" } : MethodName) ({ cls := "FanTalk$Friend", name := "sees", desc := "(II)I" } : MethodName)) ∈ UW := um3 70 rfl rfl
theorem u_551 : (Cond.sameMethod "FanTalk$Friend" "FanTalk$Friend" "sees" "(II)I") ∈ UW := um3 71 rfl rfl
theorem u_552 : (Cond.selects "FanTalk$Aunt" ({ cls := "FanTalk$Friend", name := "sees", desc := "(II)I" } : MethodName) ({ cls := "FanTalk$Aunt", name := "sees", desc := "(II)I" } : MethodName)) ∈ UW := um3 72 rfl rfl
theorem u_553 : (Cond.instanceMethod ({ cls := "FanTalk$Aunt", name := "sees", desc := "(II)I" } : MethodName)) ∈ UW := um3 73 rfl rfl
theorem u_554 : (Cond.code ({ cls := "FanTalk$Aunt", name := "sees", desc := "(II)I" } : MethodName) prog_2_method_2_code (4 : Nat) (Option.some ClassFile.FieldType.int)) ∈ UW := um3 74 rfl rfl
theorem u_555 : (Cond.methodLink "FanTalk$Aunt" (9 : Nat) ({ cls := "FanTalk$Chaperone", name := "sees", desc := "(II)I" } : MethodName)) ∈ UW := um3 75 rfl rfl
theorem u_556 : (Cond.instanceMethod ({ cls := "FanTalk$Chaperone", name := "sees", desc := "(II)I" } : MethodName)) ∈ UW := um3 76 rfl rfl
theorem u_557 : (Cond.code ({ cls := "FanTalk$Chaperone", name := "sees", desc := "(II)I" } : MethodName) prog_3_method_2_code (3 : Nat) (Option.some ClassFile.FieldType.int)) ∈ UW := um3 77 rfl rfl
theorem u_558 : (Cond.selects "FanTalk$Chaperone" ({ cls := "FanTalk$Friend", name := "sees", desc := "(II)I" } : MethodName) ({ cls := "FanTalk$Chaperone", name := "sees", desc := "(II)I" } : MethodName)) ∈ UW := um3 78 rfl rfl
theorem u_559 : (Cond.selects "FanTalk$Hasty" ({ cls := "FanTalk$Friend", name := "sees", desc := "(II)I" } : MethodName) ({ cls := "FanTalk$Friend", name := "sees", desc := "(II)I" } : MethodName)) ∈ UW := um3 79 rfl rfl
theorem u_560 : (Cond.selects "FanTalk$Mirror" ({ cls := "FanTalk$Friend", name := "sees", desc := "(II)I" } : MethodName) ({ cls := "FanTalk$Mirror", name := "sees", desc := "(II)I" } : MethodName)) ∈ UW := um3 80 rfl rfl
theorem u_561 : (Cond.instanceMethod ({ cls := "FanTalk$Mirror", name := "sees", desc := "(II)I" } : MethodName)) ∈ UW := um3 81 rfl rfl
theorem u_562 : (Cond.code ({ cls := "FanTalk$Mirror", name := "sees", desc := "(II)I" } : MethodName) prog_7_method_2_code (3 : Nat) (Option.some ClassFile.FieldType.int)) ∈ UW := um3 82 rfl rfl
theorem u_563 : (Cond.methodLink "FanTalk$Mirror" (7 : Nat) ({ cls := "FanTalk$Hasty", name := "sees", desc := "(II)I" } : MethodName)) ∈ UW := um3 83 rfl rfl
theorem u_564 : (Cond.sameMethod "FanTalk$Hasty" "FanTalk$Friend" "sees" "(II)I") ∈ UW := um3 84 rfl rfl
theorem u_566 : (Cond.code ({ cls := "FanTalk$Friend", name := "sees", desc := "(II)I" } : MethodName) prog_5_method_3_code (3 : Nat) (Option.some ClassFile.FieldType.int)) ∈ UW := um3 86 rfl rfl
theorem u_567 : (Cond.methodLink "FanTalk$Friend" (67 : Nat) ({ cls := "FanTalk$Friend", name := "choice", desc := "(II)I" } : MethodName)) ∈ UW := um3 87 rfl rfl
theorem u_569 : (Cond.instanceMethod ({ cls := "FanTalk$Friend", name := "choice", desc := "(II)I" } : MethodName)) ∈ UW := um3 89 rfl rfl
theorem u_570 : (Cond.code ({ cls := "FanTalk$Friend", name := "choice", desc := "(II)I" } : MethodName) prog_5_method_7_code (5 : Nat) (Option.some ClassFile.FieldType.int)) ∈ UW := um3 90 rfl rfl
theorem u_571 : (Cond.methodLink "FanTalk$Friend" (70 : Nat) ({ cls := "FanTalk$Friend", name := "shows", desc := "(II)Z" } : MethodName)) ∈ UW := um3 91 rfl rfl
theorem u_573 : (Cond.instanceMethod ({ cls := "FanTalk$Friend", name := "shows", desc := "(II)Z" } : MethodName)) ∈ UW := um3 93 rfl rfl
theorem u_574 : (Cond.code ({ cls := "FanTalk$Friend", name := "shows", desc := "(II)Z" } : MethodName) prog_5_method_8_code (4 : Nat) (Option.some ClassFile.FieldType.boolean)) ∈ UW := um3 94 rfl rfl
theorem u_575 : (Cond.methodLink "FanTalk$Friend" (77 : Nat) ({ cls := "java/lang/Math", name := "max", desc := "(II)I" } : MethodName)) ∈ UW := um3 95 rfl rfl
theorem u_576 : (Cond.static ({ cls := "java/lang/Math", name := "max", desc := "(II)I" } : MethodName)) ∈ UW := um3 96 rfl rfl
theorem u_577 : (Cond.code ({ cls := "java/lang/Math", name := "max", desc := "(II)I" } : MethodName) prog_15_method_65_code (2 : Nat) (Option.some ClassFile.FieldType.int)) ∈ UW := um3 97 rfl rfl
theorem u_578 : (Cond.methodLink "FanTalk$Friend" (74 : Nat) ({ cls := "FanTalk$Friend", name := "prefers", desc := "(II)Z" } : MethodName)) ∈ UW := um3 98 rfl rfl
theorem u_579 : (Cond.instanceMethod ({ cls := "FanTalk$Friend", name := "prefers", desc := "(II)Z" } : MethodName)) ∈ UW := um3 99 rfl rfl
theorem u_580 : (Cond.selects "FanTalk$Friend" ({ cls := "FanTalk$Friend", name := "prefers", desc := "(II)Z" } : MethodName) ({ cls := "FanTalk$Friend", name := "prefers", desc := "(II)Z" } : MethodName)) ∈ UW := um3 100 rfl rfl
theorem u_581 : (Cond.sameMethod "FanTalk$Friend" "FanTalk$Friend" "prefers" "(II)Z") ∈ UW := um3 101 rfl rfl
theorem u_582 : (Cond.selects "FanTalk$Aunt" ({ cls := "FanTalk$Friend", name := "prefers", desc := "(II)Z" } : MethodName) ({ cls := "FanTalk$Friend", name := "prefers", desc := "(II)Z" } : MethodName)) ∈ UW := um3 102 rfl rfl
theorem u_583 : (Cond.selects "FanTalk$Chaperone" ({ cls := "FanTalk$Friend", name := "prefers", desc := "(II)Z" } : MethodName) ({ cls := "FanTalk$Friend", name := "prefers", desc := "(II)Z" } : MethodName)) ∈ UW := um3 103 rfl rfl
theorem u_584 : (Cond.selects "FanTalk$Hasty" ({ cls := "FanTalk$Friend", name := "prefers", desc := "(II)Z" } : MethodName) ({ cls := "FanTalk$Hasty", name := "prefers", desc := "(II)Z" } : MethodName)) ∈ UW := um3 104 rfl rfl
theorem u_585 : (Cond.instanceMethod ({ cls := "FanTalk$Hasty", name := "prefers", desc := "(II)Z" } : MethodName)) ∈ UW := um3 105 rfl rfl
theorem u_586 : (Cond.code ({ cls := "FanTalk$Hasty", name := "prefers", desc := "(II)Z" } : MethodName) prog_6_method_2_code (3 : Nat) (Option.some ClassFile.FieldType.boolean)) ∈ UW := um3 106 rfl rfl
theorem u_587 : (Cond.selects "FanTalk$Mirror" ({ cls := "FanTalk$Friend", name := "prefers", desc := "(II)Z" } : MethodName) ({ cls := "FanTalk$Hasty", name := "prefers", desc := "(II)Z" } : MethodName)) ∈ UW := um3 107 rfl rfl
theorem u_588 : (Cond.code ({ cls := "FanTalk$Friend", name := "prefers", desc := "(II)Z" } : MethodName) prog_5_method_2_code (3 : Nat) (Option.some ClassFile.FieldType.boolean)) ∈ UW := um3 108 rfl rfl
theorem u_589 : (Cond.methodLink "FanTalkLaw" (59 : Nat) ({ cls := "FanTalk", name := "otherwise", desc := "(IIII)I" } : MethodName)) ∈ UW := um3 109 rfl rfl
theorem u_590 : (Cond.instanceMethod ({ cls := "FanTalk", name := "otherwise", desc := "(IIII)I" } : MethodName)) ∈ UW := um3 110 rfl rfl
theorem u_591 : (Cond.selects "FanTalk" ({ cls := "FanTalk", name := "otherwise", desc := "(IIII)I" } : MethodName) ({ cls := "FanTalk", name := "otherwise", desc := "(IIII)I" } : MethodName)) ∈ UW := um3 111 rfl rfl
theorem u_592 : (Cond.code ({ cls := "FanTalk", name := "otherwise", desc := "(IIII)I" } : MethodName) prog_1_method_12_code (9 : Nat) (Option.some ClassFile.FieldType.int)) ∈ UW := um3 112 rfl rfl
theorem u_593 : (Cond.methodLink "FanTalk" (185 : Nat) ({ cls := "java/lang/Math", name := "min", desc := "(II)I" } : MethodName)) ∈ UW := um3 113 rfl rfl
theorem u_594 : (Cond.methodLink "FanTalkLaw" (64 : Nat) ({ cls := "FanTalk", name := "utter", desc := "(I)I" } : MethodName)) ∈ UW := um3 114 rfl rfl
theorem u_595 : (Cond.instanceMethod ({ cls := "FanTalk", name := "utter", desc := "(I)I" } : MethodName)) ∈ UW := um3 115 rfl rfl
theorem u_596 : (Cond.selects "FanTalk" ({ cls := "FanTalk", name := "utter", desc := "(I)I" } : MethodName) ({ cls := "FanTalk", name := "utter", desc := "(I)I" } : MethodName)) ∈ UW := um3 116 rfl rfl
theorem u_597 : (Cond.code ({ cls := "FanTalk", name := "utter", desc := "(I)I" } : MethodName) prog_1_method_13_code (4 : Nat) (Option.some ClassFile.FieldType.int)) ∈ UW := um3 117 rfl rfl
theorem u_598 : (Cond.methodLink "FanTalk" (190 : Nat) ({ cls := "FanTalk$Past", name := "keep", desc := "(LFanTalk$Codes;)V" } : MethodName)) ∈ UW := um3 118 rfl rfl
theorem u_599 : (Cond.instanceMethod ({ cls := "FanTalk$Past", name := "keep", desc := "(LFanTalk$Codes;)V" } : MethodName)) ∈ UW := um3 119 rfl rfl
theorem u_600 : (Cond.selects "FanTalk$Past" ({ cls := "FanTalk$Past", name := "keep", desc := "(LFanTalk$Codes;)V" } : MethodName) ({ cls := "FanTalk$Past", name := "keep", desc := "(LFanTalk$Codes;)V" } : MethodName)) ∈ UW := um3 120 rfl rfl
theorem u_601 : (Cond.code ({ cls := "FanTalk$Past", name := "keep", desc := "(LFanTalk$Codes;)V" } : MethodName) prog_8_method_2_code (2 : Nat) (Option.none : Option ClassFile.FieldType)) ∈ UW := um3 121 rfl rfl
theorem u_602 : (Cond.methodLink "FanTalk$Past" (22 : Nat) ({ cls := "FanTalk$Past", name := "letTheOldestGo", desc := "()V" } : MethodName)) ∈ UW := um3 122 rfl rfl
theorem u_604 : (Cond.instanceMethod ({ cls := "FanTalk$Past", name := "letTheOldestGo", desc := "()V" } : MethodName)) ∈ UW := um3 124 rfl rfl
theorem u_605 : (Cond.code ({ cls := "FanTalk$Past", name := "letTheOldestGo", desc := "()V" } : MethodName) prog_8_method_3_code (3 : Nat) (Option.none : Option ClassFile.FieldType)) ∈ UW := um3 125 rfl rfl
theorem u_606 : (Cond.methodLink "FanTalk$Past" (25 : Nat) ({ cls := "FanTalk$Codes", name := "take", desc := "(LFanTalk$Codes;)V" } : MethodName)) ∈ UW := um3 126 rfl rfl
theorem u_607 : (Cond.methodLink "FanTalk" (193 : Nat) ({ cls := "FanTalk$Codes", name := "use", desc := "(I)V" } : MethodName)) ∈ UW := um3 127 rfl rfl
theorem u_608 : (Cond.instanceMethod ({ cls := "FanTalk$Codes", name := "use", desc := "(I)V" } : MethodName)) ∈ UW := um3 128 rfl rfl
theorem u_609 : (Cond.selects "FanTalk$Codes" ({ cls := "FanTalk$Codes", name := "use", desc := "(I)V" } : MethodName) ({ cls := "FanTalk$Codes", name := "use", desc := "(I)V" } : MethodName)) ∈ UW := um3 129 rfl rfl
theorem u_610 : (Cond.code ({ cls := "FanTalk$Codes", name := "use", desc := "(I)V" } : MethodName) prog_4_method_7_code (2 : Nat) (Option.none : Option ClassFile.FieldType)) ∈ UW := um3 130 rfl rfl
theorem u_611 : (Cond.methodLink "FanTalk$Codes" (38 : Nat) ({ cls := "java/lang/Math", name := "min", desc := "(II)I" } : MethodName)) ∈ UW := um3 131 rfl rfl
theorem u_612 : (Cond.methodLink "FanTalkLaw" (68 : Nat) ({ cls := "FanTalk", name := "uses", desc := "(I)I" } : MethodName)) ∈ UW := um3 132 rfl rfl
theorem u_613 : (Cond.instanceMethod ({ cls := "FanTalk", name := "uses", desc := "(I)I" } : MethodName)) ∈ UW := um3 133 rfl rfl
theorem u_614 : (Cond.selects "FanTalk" ({ cls := "FanTalk", name := "uses", desc := "(I)I" } : MethodName) ({ cls := "FanTalk", name := "uses", desc := "(I)I" } : MethodName)) ∈ UW := um3 134 rfl rfl
theorem u_615 : (Cond.code ({ cls := "FanTalk", name := "uses", desc := "(I)I" } : MethodName) prog_1_method_14_code (2 : Nat) (Option.some ClassFile.FieldType.int)) ∈ UW := um3 135 rfl rfl
theorem u_616 : (Cond.methodLink "FanTalkLaw" (72 : Nat) ({ cls := "FanTalk", name := "year", desc := "()I" } : MethodName)) ∈ UW := um3 136 rfl rfl
theorem u_617 : (Cond.instanceMethod ({ cls := "FanTalk", name := "year", desc := "()I" } : MethodName)) ∈ UW := um3 137 rfl rfl
theorem u_618 : (Cond.selects "FanTalk" ({ cls := "FanTalk", name := "year", desc := "()I" } : MethodName) ({ cls := "FanTalk", name := "year", desc := "()I" } : MethodName)) ∈ UW := um3 138 rfl rfl
theorem u_619 : (Cond.code ({ cls := "FanTalk", name := "year", desc := "()I" } : MethodName) prog_1_method_15_code (1 : Nat) (Option.some ClassFile.FieldType.int)) ∈ UW := um3 139 rfl rfl
theorem u_620 : (Cond.methodLink "FanTalk" (199 : Nat) ({ cls := "FanTalk$Codes", name := "dropUnused", desc := "()I" } : MethodName)) ∈ UW := um3 140 rfl rfl
theorem u_621 : (Cond.instanceMethod ({ cls := "FanTalk$Codes", name := "dropUnused", desc := "()I" } : MethodName)) ∈ UW := um3 141 rfl rfl
theorem u_622 : (Cond.selects "FanTalk$Codes" ({ cls := "FanTalk$Codes", name := "dropUnused", desc := "()I" } : MethodName) ({ cls := "FanTalk$Codes", name := "dropUnused", desc := "()I" } : MethodName)) ∈ UW := um3 142 rfl rfl
theorem u_623 : (Cond.code ({ cls := "FanTalk$Codes", name := "dropUnused", desc := "()I" } : MethodName) prog_4_method_9_code (6 : Nat) (Option.some ClassFile.FieldType.int)) ∈ UW := um3 143 rfl rfl
theorem u_624 : (Cond.methodLink "FanTalk$Codes" (44 : Nat) ({ cls := "FanTalk$Codes", name := "allEntries", desc := "()I" } : MethodName)) ∈ UW := um3 144 rfl rfl
theorem u_625 : (Cond.instanceMethod ({ cls := "FanTalk$Codes", name := "allEntries", desc := "()I" } : MethodName)) ∈ UW := um3 145 rfl rfl
theorem u_626 : (Cond.selects "FanTalk$Codes" ({ cls := "FanTalk$Codes", name := "allEntries", desc := "()I" } : MethodName) ({ cls := "FanTalk$Codes", name := "allEntries", desc := "()I" } : MethodName)) ∈ UW := um3 146 rfl rfl
theorem u_627 : (Cond.code ({ cls := "FanTalk$Codes", name := "allEntries", desc := "()I" } : MethodName) prog_4_method_8_code (3 : Nat) (Option.some ClassFile.FieldType.int)) ∈ UW := um3 147 rfl rfl
theorem u_628 : (Cond.methodLink "FanTalkLaw" (76 : Nat) ({ cls := "FanTalk", name := "undo", desc := "()I" } : MethodName)) ∈ UW := um3 148 rfl rfl
theorem u_629 : (Cond.instanceMethod ({ cls := "FanTalk", name := "undo", desc := "()I" } : MethodName)) ∈ UW := um3 149 rfl rfl
theorem u_630 : (Cond.selects "FanTalk" ({ cls := "FanTalk", name := "undo", desc := "()I" } : MethodName) ({ cls := "FanTalk", name := "undo", desc := "()I" } : MethodName)) ∈ UW := um3 150 rfl rfl
theorem u_631 : (Cond.code ({ cls := "FanTalk", name := "undo", desc := "()I" } : MethodName) prog_1_method_16_code (1 : Nat) (Option.some ClassFile.FieldType.int)) ∈ UW := um3 151 rfl rfl
theorem u_632 : (Cond.methodLink "FanTalk" (202 : Nat) ({ cls := "FanTalk$Past", name := "bringBack", desc := "(LFanTalk$Codes;)V" } : MethodName)) ∈ UW := um3 152 rfl rfl
theorem u_633 : (Cond.instanceMethod ({ cls := "FanTalk$Past", name := "bringBack", desc := "(LFanTalk$Codes;)V" } : MethodName)) ∈ UW := um3 153 rfl rfl
theorem u_634 : (Cond.selects "FanTalk$Past" ({ cls := "FanTalk$Past", name := "bringBack", desc := "(LFanTalk$Codes;)V" } : MethodName) ({ cls := "FanTalk$Past", name := "bringBack", desc := "(LFanTalk$Codes;)V" } : MethodName)) ∈ UW := um3 154 rfl rfl
theorem u_635 : (Cond.code ({ cls := "FanTalk$Past", name := "bringBack", desc := "(LFanTalk$Codes;)V" } : MethodName) prog_8_method_4_code (2 : Nat) (Option.none : Option ClassFile.FieldType)) ∈ UW := um3 155 rfl rfl
theorem u_636 : (Cond.methodLink "FanTalkLaw" (80 : Nat) ({ cls := "FanTalk", name := "want", desc := "(I)I" } : MethodName)) ∈ UW := um3 156 rfl rfl
theorem u_637 : (Cond.instanceMethod ({ cls := "FanTalk", name := "want", desc := "(I)I" } : MethodName)) ∈ UW := um3 157 rfl rfl
theorem u_638 : (Cond.selects "FanTalk" ({ cls := "FanTalk", name := "want", desc := "(I)I" } : MethodName) ({ cls := "FanTalk", name := "want", desc := "(I)I" } : MethodName)) ∈ UW := um3 158 rfl rfl
theorem u_639 : (Cond.code ({ cls := "FanTalk", name := "want", desc := "(I)I" } : MethodName) prog_1_method_17_code (2 : Nat) (Option.some ClassFile.FieldType.int)) ∈ UW := um3 159 rfl rfl
theorem u_640 : (Cond.methodLink "FanTalkLaw" (84 : Nat) ({ cls := "FanTalk", name := "forget", desc := "()I" } : MethodName)) ∈ UW := um3 160 rfl rfl
theorem u_641 : (Cond.instanceMethod ({ cls := "FanTalk", name := "forget", desc := "()I" } : MethodName)) ∈ UW := um3 161 rfl rfl
theorem u_642 : (Cond.selects "FanTalk" ({ cls := "FanTalk", name := "forget", desc := "()I" } : MethodName) ({ cls := "FanTalk", name := "forget", desc := "()I" } : MethodName)) ∈ UW := um3 162 rfl rfl
theorem u_643 : (Cond.code ({ cls := "FanTalk", name := "forget", desc := "()I" } : MethodName) prog_1_method_18_code (2 : Nat) (Option.some ClassFile.FieldType.int)) ∈ UW := um3 163 rfl rfl
theorem u_644 : (Cond.methodLink "FanTalkLaw" (88 : Nat) ({ cls := "FanTalk", name := "hide", desc := "(III)I" } : MethodName)) ∈ UW := um3 164 rfl rfl
theorem u_645 : (Cond.instanceMethod ({ cls := "FanTalk", name := "hide", desc := "(III)I" } : MethodName)) ∈ UW := um3 165 rfl rfl
theorem u_646 : (Cond.selects "FanTalk" ({ cls := "FanTalk", name := "hide", desc := "(III)I" } : MethodName) ({ cls := "FanTalk", name := "hide", desc := "(III)I" } : MethodName)) ∈ UW := um3 166 rfl rfl
theorem u_647 : (Cond.code ({ cls := "FanTalk", name := "hide", desc := "(III)I" } : MethodName) prog_1_method_19_code (5 : Nat) (Option.some ClassFile.FieldType.int)) ∈ UW := um3 167 rfl rfl
theorem u_648 : (Cond.methodLink "FanTalk" (215 : Nat) ({ cls := "java/lang/Math", name := "max", desc := "(II)I" } : MethodName)) ∈ UW := um3 168 rfl rfl
theorem u_649 : (Cond.methodLink "FanTalk" (218 : Nat) ({ cls := "FanTalk", name := "findHiding", desc := "(II)Z" } : MethodName)) ∈ UW := um3 169 rfl rfl
theorem u_651 : (Cond.instanceMethod ({ cls := "FanTalk", name := "findHiding", desc := "(II)Z" } : MethodName)) ∈ UW := um3 171 rfl rfl
theorem u_652 : (Cond.code ({ cls := "FanTalk", name := "findHiding", desc := "(II)Z" } : MethodName) prog_1_method_37_code (6 : Nat) (Option.some ClassFile.FieldType.boolean)) ∈ UW := um3 172 rfl rfl
theorem u_653 : (Cond.methodLink "FanTalk" (281 : Nat) ({ cls := "FanTalk$Walk", name := "begin", desc := "(I)V" } : MethodName)) ∈ UW := um3 173 rfl rfl
theorem u_654 : (Cond.instanceMethod ({ cls := "FanTalk$Walk", name := "begin", desc := "(I)V" } : MethodName)) ∈ UW := um3 174 rfl rfl
theorem u_655 : (Cond.selects "FanTalk$Walk" ({ cls := "FanTalk$Walk", name := "begin", desc := "(I)V" } : MethodName) ({ cls := "FanTalk$Walk", name := "begin", desc := "(I)V" } : MethodName)) ∈ UW := um3 175 rfl rfl
theorem u_656 : (Cond.code ({ cls := "FanTalk$Walk", name := "begin", desc := "(I)V" } : MethodName) prog_12_method_2_code (2 : Nat) (Option.none : Option ClassFile.FieldType)) ∈ UW := um3 176 rfl rfl
theorem u_657 : (Cond.methodLink "FanTalk$Walk" (15 : Nat) ({ cls := "java/lang/Math", name := "min", desc := "(II)I" } : MethodName)) ∈ UW := um3 177 rfl rfl
theorem u_658 : (Cond.methodLink "FanTalk$Walk" (25 : Nat) ({ cls := "FanTalk$Walk", name := "closeBehind", desc := "(I)V" } : MethodName)) ∈ UW := um3 178 rfl rfl
theorem u_660 : (Cond.instanceMethod ({ cls := "FanTalk$Walk", name := "closeBehind", desc := "(I)V" } : MethodName)) ∈ UW := um3 180 rfl rfl
theorem u_661 : (Cond.code ({ cls := "FanTalk$Walk", name := "closeBehind", desc := "(I)V" } : MethodName) prog_12_method_6_code (3 : Nat) (Option.none : Option ClassFile.FieldType)) ∈ UW := um3 181 rfl rfl
theorem u_662 : (Cond.methodLink "FanTalk$Walk" (39 : Nat) ({ cls := "java/lang/Math", name := "max", desc := "(II)I" } : MethodName)) ∈ UW := um3 182 rfl rfl
theorem u_663 : (Cond.constant "FanTalk" (284 : Nat) (1000000 : Int32)) ∈ UW := um3 183 rfl rfl
theorem u_664 : (Cond.methodLink "FanTalk" (285 : Nat) ({ cls := "FanTalk", name := "wrongToHide", desc := "(I)I" } : MethodName)) ∈ UW := um3 184 rfl rfl
theorem u_666 : (Cond.instanceMethod ({ cls := "FanTalk", name := "wrongToHide", desc := "(I)I" } : MethodName)) ∈ UW := um3 186 rfl rfl
theorem u_667 : (Cond.code ({ cls := "FanTalk", name := "wrongToHide", desc := "(I)I" } : MethodName) prog_1_method_38_code (5 : Nat) (Option.some ClassFile.FieldType.int)) ∈ UW := um3 187 rfl rfl
theorem u_668 : (Cond.methodLink "FanTalk" (288 : Nat) ({ cls := "FanTalk$Walk", name := "step", desc := "(I)Z" } : MethodName)) ∈ UW := um3 188 rfl rfl
theorem u_669 : (Cond.instanceMethod ({ cls := "FanTalk$Walk", name := "step", desc := "(I)Z" } : MethodName)) ∈ UW := um3 189 rfl rfl
theorem u_670 : (Cond.selects "FanTalk$Walk" ({ cls := "FanTalk$Walk", name := "step", desc := "(I)Z" } : MethodName) ({ cls := "FanTalk$Walk", name := "step", desc := "(I)Z" } : MethodName)) ∈ UW := um3 190 rfl rfl
theorem u_671 : (Cond.code ({ cls := "FanTalk$Walk", name := "step", desc := "(I)Z" } : MethodName) prog_12_method_3_code (3 : Nat) (Option.some ClassFile.FieldType.boolean)) ∈ UW := um3 191 rfl rfl
theorem u_672 : (Cond.methodLink "FanTalk$Walk" (29 : Nat) ({ cls := "FanTalk$Walk", name := "greatest", desc := "(I)I" } : MethodName)) ∈ UW := um3 192 rfl rfl
theorem u_674 : (Cond.instanceMethod ({ cls := "FanTalk$Walk", name := "greatest", desc := "(I)I" } : MethodName)) ∈ UW := um3 194 rfl rfl
theorem u_675 : (Cond.code ({ cls := "FanTalk$Walk", name := "greatest", desc := "(I)I" } : MethodName) prog_12_method_5_code (2 : Nat) (Option.some ClassFile.FieldType.int)) ∈ UW := um3 195 rfl rfl
theorem u_676 : (Cond.methodLink "FanTalk" (221 : Nat) ({ cls := "FanTalk$Walk", name := "number", desc := "()I" } : MethodName)) ∈ UW := um3 196 rfl rfl
theorem u_677 : (Cond.instanceMethod ({ cls := "FanTalk$Walk", name := "number", desc := "()I" } : MethodName)) ∈ UW := um3 197 rfl rfl
theorem u_678 : (Cond.selects "FanTalk$Walk" ({ cls := "FanTalk$Walk", name := "number", desc := "()I" } : MethodName) ({ cls := "FanTalk$Walk", name := "number", desc := "()I" } : MethodName)) ∈ UW := um3 198 rfl rfl
theorem u_679 : (Cond.code ({ cls := "FanTalk$Walk", name := "number", desc := "()I" } : MethodName) prog_12_method_4_code (1 : Nat) (Option.some ClassFile.FieldType.int)) ∈ UW := um3 199 rfl rfl
theorem u_680 : (Cond.methodLink "FanTalk$Walk" (33 : Nat) ({ cls := "FanTalk$Rows", name := "number", desc := "([II)I" } : MethodName)) ∈ UW := um3 200 rfl rfl
theorem u_681 : (Cond.static ({ cls := "FanTalk$Rows", name := "number", desc := "([II)I" } : MethodName)) ∈ UW := um3 201 rfl rfl
theorem u_682 : (Cond.code ({ cls := "FanTalk$Rows", name := "number", desc := "([II)I" } : MethodName) prog_9_method_4_code (4 : Nat) (Option.some ClassFile.FieldType.int)) ∈ UW := um3 202 rfl rfl
theorem u_683 : (Cond.methodLink "FanTalkLaw" (92 : Nat) ({ cls := "FanTalk", name := "save", desc := "(III)I" } : MethodName)) ∈ UW := um3 203 rfl rfl
theorem u_684 : (Cond.instanceMethod ({ cls := "FanTalk", name := "save", desc := "(III)I" } : MethodName)) ∈ UW := um3 204 rfl rfl
theorem u_685 : (Cond.selects "FanTalk" ({ cls := "FanTalk", name := "save", desc := "(III)I" } : MethodName) ({ cls := "FanTalk", name := "save", desc := "(III)I" } : MethodName)) ∈ UW := um3 205 rfl rfl
theorem u_686 : (Cond.code ({ cls := "FanTalk", name := "save", desc := "(III)I" } : MethodName) prog_1_method_20_code (5 : Nat) (Option.some ClassFile.FieldType.int)) ∈ UW := um3 206 rfl rfl
theorem u_687 : (Cond.methodLink "FanTalk" (224 : Nat) ({ cls := "FanTalk", name := "findSaving", desc := "(II)Z" } : MethodName)) ∈ UW := um3 207 rfl rfl
theorem u_689 : (Cond.instanceMethod ({ cls := "FanTalk", name := "findSaving", desc := "(II)Z" } : MethodName)) ∈ UW := um3 209 rfl rfl
theorem u_690 : (Cond.code ({ cls := "FanTalk", name := "findSaving", desc := "(II)Z" } : MethodName) prog_1_method_39_code (6 : Nat) (Option.some ClassFile.FieldType.boolean)) ∈ UW := um3 210 rfl rfl
theorem u_691 : (Cond.methodLink "FanTalk" (301 : Nat) ({ cls := "FanTalk", name := "wrongToSave", desc := "(II)I" } : MethodName)) ∈ UW := um3 211 rfl rfl
theorem u_693 : (Cond.instanceMethod ({ cls := "FanTalk", name := "wrongToSave", desc := "(II)I" } : MethodName)) ∈ UW := um3 213 rfl rfl
theorem u_694 : (Cond.code ({ cls := "FanTalk", name := "wrongToSave", desc := "(II)I" } : MethodName) prog_1_method_40_code (6 : Nat) (Option.some ClassFile.FieldType.int)) ∈ UW := um3 214 rfl rfl
theorem u_695 : (Cond.methodLink "FanTalkLaw" (96 : Nat) ({ cls := "FanTalk", name := "safe", desc := "(I)I" } : MethodName)) ∈ UW := um3 215 rfl rfl
theorem u_696 : (Cond.instanceMethod ({ cls := "FanTalk", name := "safe", desc := "(I)I" } : MethodName)) ∈ UW := um3 216 rfl rfl
theorem u_697 : (Cond.selects "FanTalk" ({ cls := "FanTalk", name := "safe", desc := "(I)I" } : MethodName) ({ cls := "FanTalk", name := "safe", desc := "(I)I" } : MethodName)) ∈ UW := um3 217 rfl rfl
theorem u_698 : (Cond.code ({ cls := "FanTalk", name := "safe", desc := "(I)I" } : MethodName) prog_1_method_21_code (7 : Nat) (Option.some ClassFile.FieldType.int)) ∈ UW := um3 218 rfl rfl
theorem u_699 : (Cond.methodLink "FanTalk" (227 : Nat) ({ cls := "FanTalk", name := "isSafe", desc := "(II)Z" } : MethodName)) ∈ UW := um3 219 rfl rfl
theorem u_701 : (Cond.instanceMethod ({ cls := "FanTalk", name := "isSafe", desc := "(II)Z" } : MethodName)) ∈ UW := um3 221 rfl rfl
theorem u_702 : (Cond.code ({ cls := "FanTalk", name := "isSafe", desc := "(II)Z" } : MethodName) prog_1_method_41_code (6 : Nat) (Option.some ClassFile.FieldType.boolean)) ∈ UW := um3 222 rfl rfl
theorem u_703 : (Cond.methodLink "FanTalk" (257 : Nat) ({ cls := "FanTalk$Friend", name := "timesOf", desc := "(I)I" } : MethodName)) ∈ UW := um3 223 rfl rfl
theorem u_704 : (Cond.instanceMethod ({ cls := "FanTalk$Friend", name := "timesOf", desc := "(I)I" } : MethodName)) ∈ UW := um3 224 rfl rfl
theorem u_705 : (Cond.selects "FanTalk$Friend" ({ cls := "FanTalk$Friend", name := "timesOf", desc := "(I)I" } : MethodName) ({ cls := "FanTalk$Friend", name := "timesOf", desc := "(I)I" } : MethodName)) ∈ UW := um3 225 rfl rfl
theorem u_706 : (Cond.sameMethod "FanTalk$Friend" "FanTalk$Friend" "timesOf" "(I)I") ∈ UW := um3 226 rfl rfl
theorem u_707 : (Cond.selects "FanTalk$Aunt" ({ cls := "FanTalk$Friend", name := "timesOf", desc := "(I)I" } : MethodName) ({ cls := "FanTalk$Friend", name := "timesOf", desc := "(I)I" } : MethodName)) ∈ UW := um3 227 rfl rfl
theorem u_708 : (Cond.selects "FanTalk$Chaperone" ({ cls := "FanTalk$Friend", name := "timesOf", desc := "(I)I" } : MethodName) ({ cls := "FanTalk$Friend", name := "timesOf", desc := "(I)I" } : MethodName)) ∈ UW := um3 228 rfl rfl
theorem u_709 : (Cond.selects "FanTalk$Hasty" ({ cls := "FanTalk$Friend", name := "timesOf", desc := "(I)I" } : MethodName) ({ cls := "FanTalk$Friend", name := "timesOf", desc := "(I)I" } : MethodName)) ∈ UW := um3 229 rfl rfl
theorem u_710 : (Cond.selects "FanTalk$Mirror" ({ cls := "FanTalk$Friend", name := "timesOf", desc := "(I)I" } : MethodName) ({ cls := "FanTalk$Friend", name := "timesOf", desc := "(I)I" } : MethodName)) ∈ UW := um3 230 rfl rfl
theorem u_711 : (Cond.code ({ cls := "FanTalk$Friend", name := "timesOf", desc := "(I)I" } : MethodName) prog_5_method_6_code (4 : Nat) (Option.some ClassFile.FieldType.int)) ∈ UW := um3 231 rfl rfl
theorem u_712 : (Cond.methodLink "FanTalkLaw" (100 : Nat) ({ cls := "FanTalk", name := "fact", desc := "(II)I" } : MethodName)) ∈ UW := um3 232 rfl rfl
theorem u_713 : (Cond.instanceMethod ({ cls := "FanTalk", name := "fact", desc := "(II)I" } : MethodName)) ∈ UW := um3 233 rfl rfl
theorem u_714 : (Cond.selects "FanTalk" ({ cls := "FanTalk", name := "fact", desc := "(II)I" } : MethodName) ({ cls := "FanTalk", name := "fact", desc := "(II)I" } : MethodName)) ∈ UW := um3 234 rfl rfl
theorem u_715 : (Cond.code ({ cls := "FanTalk", name := "fact", desc := "(II)I" } : MethodName) prog_1_method_22_code (4 : Nat) (Option.some ClassFile.FieldType.int)) ∈ UW := um3 235 rfl rfl
theorem u_716 : (Cond.methodLink "FanTalkLaw" (105 : Nat) ({ cls := "FanTalk", name := "mayBe", desc := "()I" } : MethodName)) ∈ UW := um3 236 rfl rfl
theorem u_717 : (Cond.instanceMethod ({ cls := "FanTalk", name := "mayBe", desc := "()I" } : MethodName)) ∈ UW := um3 237 rfl rfl
theorem u_718 : (Cond.selects "FanTalk" ({ cls := "FanTalk", name := "mayBe", desc := "()I" } : MethodName) ({ cls := "FanTalk", name := "mayBe", desc := "()I" } : MethodName)) ∈ UW := um3 238 rfl rfl
theorem u_719 : (Cond.code ({ cls := "FanTalk", name := "mayBe", desc := "()I" } : MethodName) prog_1_method_23_code (3 : Nat) (Option.some ClassFile.FieldType.int)) ∈ UW := um3 239 rfl rfl
theorem u_720 : (Cond.methodLink "FanTalk" (239 : Nat) ({ cls := "FanTalk", name := "bearsFacts", desc := "(I)Z" } : MethodName)) ∈ UW := um4 0 rfl rfl
theorem u_722 : (Cond.instanceMethod ({ cls := "FanTalk", name := "bearsFacts", desc := "(I)Z" } : MethodName)) ∈ UW := um4 2 rfl rfl
theorem u_723 : (Cond.code ({ cls := "FanTalk", name := "bearsFacts", desc := "(I)Z" } : MethodName) prog_1_method_42_code (5 : Nat) (Option.some ClassFile.FieldType.boolean)) ∈ UW := um4 3 rfl rfl
theorem u_724 : (Cond.methodLink "FanTalkLaw" (109 : Nat) ({ cls := "FanTalk", name := "heat", desc := "(IIIII)I" } : MethodName)) ∈ UW := um4 4 rfl rfl
theorem u_725 : (Cond.instanceMethod ({ cls := "FanTalk", name := "heat", desc := "(IIIII)I" } : MethodName)) ∈ UW := um4 5 rfl rfl
theorem u_726 : (Cond.selects "FanTalk" ({ cls := "FanTalk", name := "heat", desc := "(IIIII)I" } : MethodName) ({ cls := "FanTalk", name := "heat", desc := "(IIIII)I" } : MethodName)) ∈ UW := um4 6 rfl rfl
theorem u_727 : (Cond.code ({ cls := "FanTalk", name := "heat", desc := "(IIIII)I" } : MethodName) prog_1_method_24_code (9 : Nat) (Option.some ClassFile.FieldType.int)) ∈ UW := um4 7 rfl rfl
theorem u_728 : (Cond.constant "FanTalk" (242 : Nat) (999999 : Int32)) ∈ UW := um4 8 rfl rfl
theorem u_729 : (Cond.constantLong "FanTalk" (243 : Nat) (1103515245 : Int64)) ∈ UW := um4 9 rfl rfl
theorem u_730 : (Cond.constantLong "FanTalk" (245 : Nat) (12345 : Int64)) ∈ UW := um4 10 rfl rfl
theorem u_731 : (Cond.constantLong "FanTalk" (247 : Nat) (2147483648 : Int64)) ∈ UW := um4 11 rfl rfl
theorem u_732 : (Cond.constantLong "FanTalk" (249 : Nat) (65536 : Int64)) ∈ UW := um4 12 rfl rfl
theorem u_733 : (Cond.constantLong "FanTalk" (251 : Nat) (12 : Int64)) ∈ UW := um4 13 rfl rfl
theorem u_734 : (Cond.methodLink "FanTalkLaw" (114 : Nat) ({ cls := "FanTalk", name := "image", desc := "(I)I" } : MethodName)) ∈ UW := um4 14 rfl rfl
theorem u_735 : (Cond.instanceMethod ({ cls := "FanTalk", name := "image", desc := "(I)I" } : MethodName)) ∈ UW := um4 15 rfl rfl
theorem u_736 : (Cond.selects "FanTalk" ({ cls := "FanTalk", name := "image", desc := "(I)I" } : MethodName) ({ cls := "FanTalk", name := "image", desc := "(I)I" } : MethodName)) ∈ UW := um4 16 rfl rfl
theorem u_737 : (Cond.code ({ cls := "FanTalk", name := "image", desc := "(I)I" } : MethodName) prog_1_method_25_code (2 : Nat) (Option.some ClassFile.FieldType.int)) ∈ UW := um4 17 rfl rfl
theorem u_738 : (Cond.methodLink "FanTalk" (260 : Nat) ({ cls := "FanTalk$Talk", name := "take", desc := "(LFanTalk$Talk;)V" } : MethodName)) ∈ UW := um4 18 rfl rfl
theorem u_739 : (Cond.instanceMethod ({ cls := "FanTalk$Talk", name := "take", desc := "(LFanTalk$Talk;)V" } : MethodName)) ∈ UW := um4 19 rfl rfl
theorem u_740 : (Cond.selects "FanTalk$Talk" ({ cls := "FanTalk$Talk", name := "take", desc := "(LFanTalk$Talk;)V" } : MethodName) ({ cls := "FanTalk$Talk", name := "take", desc := "(LFanTalk$Talk;)V" } : MethodName)) ∈ UW := um4 20 rfl rfl
theorem u_741 : (Cond.code ({ cls := "FanTalk$Talk", name := "take", desc := "(LFanTalk$Talk;)V" } : MethodName) prog_11_method_2_code (2 : Nat) (Option.none : Option ClassFile.FieldType)) ∈ UW := um4 21 rfl rfl
theorem u_742 : (Cond.methodLink "FanTalk$Talk" (38 : Nat) ({ cls := "FanTalk$Codes", name := "take", desc := "(LFanTalk$Codes;)V" } : MethodName)) ∈ UW := um4 22 rfl rfl
theorem u_743 : (Cond.methodLink "FanTalk$Talk" (42 : Nat) ({ cls := "FanTalk$Past", name := "take", desc := "(LFanTalk$Past;)V" } : MethodName)) ∈ UW := um4 23 rfl rfl
theorem u_744 : (Cond.instanceMethod ({ cls := "FanTalk$Past", name := "take", desc := "(LFanTalk$Past;)V" } : MethodName)) ∈ UW := um4 24 rfl rfl
theorem u_745 : (Cond.selects "FanTalk$Past" ({ cls := "FanTalk$Past", name := "take", desc := "(LFanTalk$Past;)V" } : MethodName) ({ cls := "FanTalk$Past", name := "take", desc := "(LFanTalk$Past;)V" } : MethodName)) ∈ UW := um4 25 rfl rfl
theorem u_746 : (Cond.code ({ cls := "FanTalk$Past", name := "take", desc := "(LFanTalk$Past;)V" } : MethodName) prog_8_method_5_code (3 : Nat) (Option.none : Option ClassFile.FieldType)) ∈ UW := um4 26 rfl rfl
theorem u_747 : (Cond.methodLink "FanTalk$Talk" (49 : Nat) ({ cls := "java/lang/System", name := "arraycopy", desc := "(Ljava/lang/Object;ILjava/lang/Object;II)V" } : MethodName)) ∈ UW := um4 27 rfl rfl
theorem u_748 : (Cond.methodLink "FanTalkLaw" (118 : Nat) ({ cls := "FanTalk", name := "from", desc := "(I)I" } : MethodName)) ∈ UW := um4 28 rfl rfl
theorem u_749 : (Cond.instanceMethod ({ cls := "FanTalk", name := "from", desc := "(I)I" } : MethodName)) ∈ UW := um4 29 rfl rfl
theorem u_750 : (Cond.selects "FanTalk" ({ cls := "FanTalk", name := "from", desc := "(I)I" } : MethodName) ({ cls := "FanTalk", name := "from", desc := "(I)I" } : MethodName)) ∈ UW := um4 30 rfl rfl
theorem u_751 : (Cond.code ({ cls := "FanTalk", name := "from", desc := "(I)I" } : MethodName) prog_1_method_26_code (2 : Nat) (Option.some ClassFile.FieldType.int)) ∈ UW := um4 31 rfl rfl
theorem u_752 : (Cond.methodLink "FanTalkLaw" (122 : Nat) ({ cls := "FanTalk", name := "status", desc := "(I)I" } : MethodName)) ∈ UW := um4 32 rfl rfl
theorem u_753 : (Cond.instanceMethod ({ cls := "FanTalk", name := "status", desc := "(I)I" } : MethodName)) ∈ UW := um4 33 rfl rfl
theorem u_754 : (Cond.selects "FanTalk" ({ cls := "FanTalk", name := "status", desc := "(I)I" } : MethodName) ({ cls := "FanTalk", name := "status", desc := "(I)I" } : MethodName)) ∈ UW := um4 34 rfl rfl
theorem u_755 : (Cond.code ({ cls := "FanTalk", name := "status", desc := "(I)I" } : MethodName) prog_1_method_27_code (2 : Nat) (Option.some ClassFile.FieldType.int)) ∈ UW := um4 35 rfl rfl
theorem u_756 : (Cond.methodLink "FanTalkLaw" (126 : Nat) ({ cls := "FanTalk", name := "count", desc := "(I)I" } : MethodName)) ∈ UW := um4 36 rfl rfl
theorem u_757 : (Cond.instanceMethod ({ cls := "FanTalk", name := "count", desc := "(I)I" } : MethodName)) ∈ UW := um4 37 rfl rfl
theorem u_758 : (Cond.selects "FanTalk" ({ cls := "FanTalk", name := "count", desc := "(I)I" } : MethodName) ({ cls := "FanTalk", name := "count", desc := "(I)I" } : MethodName)) ∈ UW := um4 38 rfl rfl
theorem u_759 : (Cond.code ({ cls := "FanTalk", name := "count", desc := "(I)I" } : MethodName) prog_1_method_28_code (3 : Nat) (Option.some ClassFile.FieldType.int)) ∈ UW := um4 39 rfl rfl
theorem u_760 : (Cond.methodLink "FanTalk" (263 : Nat) ({ cls := "FanTalk", name := "howMany", desc := "(I)I" } : MethodName)) ∈ UW := um4 40 rfl rfl
theorem u_762 : (Cond.instanceMethod ({ cls := "FanTalk", name := "howMany", desc := "(I)I" } : MethodName)) ∈ UW := um4 42 rfl rfl
theorem u_763 : (Cond.code ({ cls := "FanTalk", name := "howMany", desc := "(I)I" } : MethodName) prog_1_method_34_code (2 : Nat) (Option.some ClassFile.FieldType.int)) ∈ UW := um4 43 rfl rfl
theorem u_764 : (Cond.methodLink "FanTalk" (274 : Nat) ({ cls := "FanTalk$Codes", name := "allEntries", desc := "()I" } : MethodName)) ∈ UW := um4 44 rfl rfl
theorem u_765 : (Cond.methodLink "FanTalkLaw" (130 : Nat) ({ cls := "FanTalk", name := "digest", desc := "()J" } : MethodName)) ∈ UW := um4 45 rfl rfl
theorem u_766 : (Cond.instanceMethod ({ cls := "FanTalk", name := "digest", desc := "()J" } : MethodName)) ∈ UW := um4 46 rfl rfl
theorem u_767 : (Cond.selects "FanTalk" ({ cls := "FanTalk", name := "digest", desc := "()J" } : MethodName) ({ cls := "FanTalk", name := "digest", desc := "()J" } : MethodName)) ∈ UW := um4 47 rfl rfl
theorem u_768 : (Cond.code ({ cls := "FanTalk", name := "digest", desc := "()J" } : MethodName) prog_1_method_29_code (4 : Nat) (Option.some ClassFile.FieldType.long)) ∈ UW := um4 48 rfl rfl
theorem u_769 : (Cond.constantLong "FanTalk" (266 : Nat) (811 : Int64)) ∈ UW := um4 49 rfl rfl
theorem u_770 : (Cond.constantLong "FanTalk" (268 : Nat) (31 : Int64)) ∈ UW := um4 50 rfl rfl
theorem u_771 : (Cond.methodLink "FanTalk" (270 : Nat) ({ cls := "FanTalk$Codes", name := "digestOn", desc := "(J)J" } : MethodName)) ∈ UW := um4 51 rfl rfl
theorem u_772 : (Cond.instanceMethod ({ cls := "FanTalk$Codes", name := "digestOn", desc := "(J)J" } : MethodName)) ∈ UW := um4 52 rfl rfl
theorem u_773 : (Cond.selects "FanTalk$Codes" ({ cls := "FanTalk$Codes", name := "digestOn", desc := "(J)J" } : MethodName) ({ cls := "FanTalk$Codes", name := "digestOn", desc := "(J)J" } : MethodName)) ∈ UW := um4 53 rfl rfl
theorem u_774 : (Cond.code ({ cls := "FanTalk$Codes", name := "digestOn", desc := "(J)J" } : MethodName) prog_4_method_10_code (7 : Nat) (Option.some ClassFile.FieldType.long)) ∈ UW := um4 54 rfl rfl
theorem u_775 : (Cond.constantLong "FanTalk$Codes" (48 : Nat) (31 : Int64)) ∈ UW := um4 55 rfl rfl
theorem u_776 : (Cond.classLink "FanTalkLaw" (10 : Nat) "FanTalkModel") ∈ UW := um4 56 rfl rfl
theorem u_777 : (Cond.instantiable "FanTalkModel" (17 : Nat)) ∈ UW := um4 57 rfl rfl
theorem u_778 : (Cond.methodLink "FanTalkLaw" (12 : Nat) ({ cls := "FanTalkModel", name := "<init>", desc := "()V" } : MethodName)) ∈ UW := um4 58 rfl rfl
theorem u_779 : (Cond.instanceMethod ({ cls := "FanTalkModel", name := "<init>", desc := "()V" } : MethodName)) ∈ UW := um4 59 rfl rfl
theorem u_780 : (Cond.code ({ cls := "FanTalkModel", name := "<init>", desc := "()V" } : MethodName) prog_14_method_1_code (1 : Nat) (Option.none : Option ClassFile.FieldType)) ∈ UW := um4 60 rfl rfl
theorem u_781 : (Cond.methodLink "FanTalkModel" (1 : Nat) ({ cls := "java/lang/Object", name := "<init>", desc := "()V" } : MethodName)) ∈ UW := um4 61 rfl rfl
theorem u_782 : (Cond.fieldLink "FanTalkModel" (7 : Nat) "FanTalkModel" "now" "[I") ∈ UW := um4 62 rfl rfl
theorem u_783 : (Cond.fieldLink "FanTalkModel" (40 : Nat) "FanTalkModel" "base" "I") ∈ UW := um4 63 rfl rfl
theorem u_784 : (Cond.fieldLink "FanTalkModel" (13 : Nat) "FanTalkModel" "isKept" "[Z") ∈ UW := um4 64 rfl rfl
theorem u_785 : (Cond.fieldLink "FanTalkModel" (17 : Nat) "FanTalkModel" "refused" "[I") ∈ UW := um4 65 rfl rfl
theorem u_786 : (Cond.fieldLink "FanTalkModel" (20 : Nat) "FanTalkModel" "text" "[B") ∈ UW := um4 66 rfl rfl
theorem u_787 : (Cond.fieldLink "FanTalkModel" (36 : Nat) "FanTalkModel" "typed" "I") ∈ UW := um4 67 rfl rfl
theorem u_788 : (Cond.fieldLink "FanTalkModel" (92 : Nat) "FanTalkModel" "at" "I") ∈ UW := um4 68 rfl rfl
theorem u_789 : (Cond.fieldLink "FanTalkModel" (98 : Nat) "FanTalkModel" "start" "I") ∈ UW := um4 69 rfl rfl
theorem u_790 : (Cond.fieldLink "FanTalkModel" (104 : Nat) "FanTalkModel" "sort" "I") ∈ UW := um4 70 rfl rfl
theorem u_791 : (Cond.fieldLink "FanTalkModel" (101 : Nat) "FanTalkModel" "value" "I") ∈ UW := um4 71 rfl rfl
theorem u_792 : (Cond.fieldLink "FanTalkModel" (110 : Nat) "FanTalkModel" "fault" "I") ∈ UW := um4 72 rfl rfl
theorem u_793 : (Cond.fieldLink "FanTalkModel" (24 : Nat) "FanTalkModel" "made" "[I") ∈ UW := um4 73 rfl rfl
theorem u_794 : (Cond.fieldLink "FanTalkModel" (132 : Nat) "FanTalkModel" "beats" "I") ∈ UW := um4 74 rfl rfl
theorem u_795 : (Cond.fieldLink "FanTalkModel" (27 : Nat) "FanTalkModel" "view" "[I") ∈ UW := um4 75 rfl rfl
theorem u_796 : (Cond.fieldLink "FanTalkModel" (30 : Nat) "FanTalkModel" "words" "[I") ∈ UW := um4 76 rfl rfl
theorem u_797 : (Cond.fieldLink "FanTalkModel" (145 : Nat) "FanTalkModel" "wordMany" "I") ∈ UW := um4 77 rfl rfl
theorem u_798 : (Cond.fieldLink "FanTalkModel" (33 : Nat) "FanTalkModel" "first" "[I") ∈ UW := um4 78 rfl rfl
theorem u_833 : (Cond.superclass "FanTalkModel" "java/lang/Object") ∈ UW := um4 113 rfl rfl
theorem u_834 : (Cond.methodLink "FanTalkLaw" (17 : Nat) ({ cls := "FanTalkModel", name := "code", desc := "()I" } : MethodName)) ∈ UW := um4 114 rfl rfl
theorem u_835 : (Cond.instanceMethod ({ cls := "FanTalkModel", name := "code", desc := "()I" } : MethodName)) ∈ UW := um4 115 rfl rfl
theorem u_836 : (Cond.selects "FanTalkModel" ({ cls := "FanTalkModel", name := "code", desc := "()I" } : MethodName) ({ cls := "FanTalkModel", name := "code", desc := "()I" } : MethodName)) ∈ UW := um4 116 rfl rfl
theorem u_837 : (Cond.code ({ cls := "FanTalkModel", name := "code", desc := "()I" } : MethodName) prog_14_method_18_code (1 : Nat) (Option.some ClassFile.FieldType.int)) ∈ UW := um4 117 rfl rfl
theorem u_838 : (Cond.methodLink "FanTalkModel" (43 : Nat) ({ cls := "FanTalkModel", name := "get", desc := "(I)I" } : MethodName)) ∈ UW := um4 118 rfl rfl
theorem u_840 : (Cond.instanceMethod ({ cls := "FanTalkModel", name := "get", desc := "(I)I" } : MethodName)) ∈ UW := um4 120 rfl rfl
theorem u_841 : (Cond.code ({ cls := "FanTalkModel", name := "get", desc := "(I)I" } : MethodName) prog_14_method_7_code (2 : Nat) (Option.some ClassFile.FieldType.int)) ∈ UW := um4 121 rfl rfl
theorem u_842 : (Cond.methodLink "FanTalkModel" (62 : Nat) ({ cls := "FanTalkModel", name := "full", desc := "()I" } : MethodName)) ∈ UW := um4 122 rfl rfl
theorem u_844 : (Cond.instanceMethod ({ cls := "FanTalkModel", name := "full", desc := "()I" } : MethodName)) ∈ UW := um4 124 rfl rfl
theorem u_845 : (Cond.code ({ cls := "FanTalkModel", name := "full", desc := "()I" } : MethodName) prog_14_method_6_code (1 : Nat) (Option.some ClassFile.FieldType.int)) ∈ UW := um4 125 rfl rfl
theorem u_846 : (Cond.methodLink "FanTalkModel" (58 : Nat) ({ cls := "FanTalkModel", name := "set", desc := "(II)V" } : MethodName)) ∈ UW := um4 126 rfl rfl
theorem u_848 : (Cond.instanceMethod ({ cls := "FanTalkModel", name := "set", desc := "(II)V" } : MethodName)) ∈ UW := um4 128 rfl rfl
theorem u_849 : (Cond.code ({ cls := "FanTalkModel", name := "set", desc := "(II)V" } : MethodName) prog_14_method_8_code (3 : Nat) (Option.none : Option ClassFile.FieldType)) ∈ UW := um4 129 rfl rfl
theorem u_850 : (Cond.methodLink "FanTalkLaw" (22 : Nat) ({ cls := "FanTalkModel", name := "entry", desc := "(III)I" } : MethodName)) ∈ UW := um4 130 rfl rfl
theorem u_851 : (Cond.instanceMethod ({ cls := "FanTalkModel", name := "entry", desc := "(III)I" } : MethodName)) ∈ UW := um4 131 rfl rfl
theorem u_852 : (Cond.selects "FanTalkModel" ({ cls := "FanTalkModel", name := "entry", desc := "(III)I" } : MethodName) ({ cls := "FanTalkModel", name := "entry", desc := "(III)I" } : MethodName)) ∈ UW := um4 132 rfl rfl
theorem u_853 : (Cond.code ({ cls := "FanTalkModel", name := "entry", desc := "(III)I" } : MethodName) prog_14_method_19_code (4 : Nat) (Option.some ClassFile.FieldType.int)) ∈ UW := um4 133 rfl rfl
theorem u_854 : (Cond.methodLink "FanTalkModel" (66 : Nat) ({ cls := "FanTalkModel", name := "isCode", desc := "(I)Z" } : MethodName)) ∈ UW := um4 134 rfl rfl
theorem u_856 : (Cond.instanceMethod ({ cls := "FanTalkModel", name := "isCode", desc := "(I)Z" } : MethodName)) ∈ UW := um4 136 rfl rfl
theorem u_857 : (Cond.code ({ cls := "FanTalkModel", name := "isCode", desc := "(I)Z" } : MethodName) prog_14_method_10_code (2 : Nat) (Option.some ClassFile.FieldType.boolean)) ∈ UW := um4 137 rfl rfl
theorem u_858 : (Cond.methodLink "FanTalkModel" (47 : Nat) ({ cls := "FanTalkModel", name := "in", desc := "(III)Z" } : MethodName)) ∈ UW := um4 138 rfl rfl
theorem u_859 : (Cond.static ({ cls := "FanTalkModel", name := "in", desc := "(III)Z" } : MethodName)) ∈ UW := um4 139 rfl rfl
theorem u_860 : (Cond.code ({ cls := "FanTalkModel", name := "in", desc := "(III)Z" } : MethodName) prog_14_method_3_code (3 : Nat) (Option.some ClassFile.FieldType.boolean)) ∈ UW := um4 140 rfl rfl
theorem u_861 : (Cond.methodLink "FanTalkModel" (70 : Nat) ({ cls := "FanTalkModel", name := "lengthOf", desc := "(I)I" } : MethodName)) ∈ UW := um4 141 rfl rfl
theorem u_862 : (Cond.static ({ cls := "FanTalkModel", name := "lengthOf", desc := "(I)I" } : MethodName)) ∈ UW := um4 142 rfl rfl
theorem u_863 : (Cond.code ({ cls := "FanTalkModel", name := "lengthOf", desc := "(I)I" } : MethodName) prog_14_method_14_code (3 : Nat) (Option.some ClassFile.FieldType.int)) ∈ UW := um4 143 rfl rfl
theorem u_864 : (Cond.methodLink "FanTalkModel" (73 : Nat) ({ cls := "FanTalkModel", name := "bad", desc := "()I" } : MethodName)) ∈ UW := um4 144 rfl rfl
theorem u_866 : (Cond.instanceMethod ({ cls := "FanTalkModel", name := "bad", desc := "()I" } : MethodName)) ∈ UW := um4 146 rfl rfl
theorem u_867 : (Cond.code ({ cls := "FanTalkModel", name := "bad", desc := "()I" } : MethodName) prog_14_method_4_code (1 : Nat) (Option.some ClassFile.FieldType.int)) ∈ UW := um4 147 rfl rfl
theorem u_868 : (Cond.methodLink "FanTalkModel" (76 : Nat) ({ cls := "FanTalkModel", name := "hasRow", desc := "(II)Z" } : MethodName)) ∈ UW := um4 148 rfl rfl
theorem u_870 : (Cond.instanceMethod ({ cls := "FanTalkModel", name := "hasRow", desc := "(II)Z" } : MethodName)) ∈ UW := um4 150 rfl rfl
theorem u_871 : (Cond.code ({ cls := "FanTalkModel", name := "hasRow", desc := "(II)Z" } : MethodName) prog_14_method_16_code (5 : Nat) (Option.some ClassFile.FieldType.boolean)) ∈ UW := um4 151 rfl rfl
theorem u_872 : (Cond.methodLink "FanTalkModel" (51 : Nat) ({ cls := "FanTalkModel", name := "entriesOf", desc := "(I)I" } : MethodName)) ∈ UW := um4 152 rfl rfl
theorem u_874 : (Cond.instanceMethod ({ cls := "FanTalkModel", name := "entriesOf", desc := "(I)I" } : MethodName)) ∈ UW := um4 154 rfl rfl
theorem u_875 : (Cond.code ({ cls := "FanTalkModel", name := "entriesOf", desc := "(I)I" } : MethodName) prog_14_method_11_code (2 : Nat) (Option.some ClassFile.FieldType.int)) ∈ UW := um4 155 rfl rfl
theorem u_876 : (Cond.methodLink "FanTalkModel" (54 : Nat) ({ cls := "FanTalkModel", name := "rowOf", desc := "(II)I" } : MethodName)) ∈ UW := um4 156 rfl rfl
theorem u_878 : (Cond.instanceMethod ({ cls := "FanTalkModel", name := "rowOf", desc := "(II)I" } : MethodName)) ∈ UW := um4 158 rfl rfl
theorem u_879 : (Cond.code ({ cls := "FanTalkModel", name := "rowOf", desc := "(II)I" } : MethodName) prog_14_method_12_code (3 : Nat) (Option.some ClassFile.FieldType.int)) ∈ UW := um4 159 rfl rfl
theorem u_880 : (Cond.methodLink "FanTalkModel" (80 : Nat) ({ cls := "FanTalkModel", name := "no", desc := "()I" } : MethodName)) ∈ UW := um4 160 rfl rfl
theorem u_882 : (Cond.instanceMethod ({ cls := "FanTalkModel", name := "no", desc := "()I" } : MethodName)) ∈ UW := um4 162 rfl rfl
theorem u_883 : (Cond.code ({ cls := "FanTalkModel", name := "no", desc := "()I" } : MethodName) prog_14_method_5_code (1 : Nat) (Option.some ClassFile.FieldType.int)) ∈ UW := um4 163 rfl rfl
theorem u_884 : (Cond.methodLink "FanTalkModel" (83 : Nat) ({ cls := "FanTalkModel", name := "addEntry", desc := "(III)V" } : MethodName)) ∈ UW := um4 164 rfl rfl
theorem u_886 : (Cond.instanceMethod ({ cls := "FanTalkModel", name := "addEntry", desc := "(III)V" } : MethodName)) ∈ UW := um4 166 rfl rfl
theorem u_887 : (Cond.code ({ cls := "FanTalkModel", name := "addEntry", desc := "(III)V" } : MethodName) prog_14_method_17_code (5 : Nat) (Option.none : Option ClassFile.FieldType)) ∈ UW := um4 167 rfl rfl
theorem u_888 : (Cond.methodLink "FanTalkLaw" (26 : Nat) ({ cls := "FanTalkModel", name := "told", desc := "(III)I" } : MethodName)) ∈ UW := um4 168 rfl rfl
theorem u_889 : (Cond.instanceMethod ({ cls := "FanTalkModel", name := "told", desc := "(III)I" } : MethodName)) ∈ UW := um4 169 rfl rfl
theorem u_890 : (Cond.selects "FanTalkModel" ({ cls := "FanTalkModel", name := "told", desc := "(III)I" } : MethodName) ({ cls := "FanTalkModel", name := "told", desc := "(III)I" } : MethodName)) ∈ UW := um4 170 rfl rfl
theorem u_891 : (Cond.code ({ cls := "FanTalkModel", name := "told", desc := "(III)I" } : MethodName) prog_14_method_20_code (4 : Nat) (Option.some ClassFile.FieldType.int)) ∈ UW := um4 171 rfl rfl
theorem u_892 : (Cond.methodLink "FanTalkModel" (87 : Nat) ({ cls := "FanTalkModel", name := "wordOf", desc := "(II)I" } : MethodName)) ∈ UW := um4 172 rfl rfl
theorem u_894 : (Cond.instanceMethod ({ cls := "FanTalkModel", name := "wordOf", desc := "(II)I" } : MethodName)) ∈ UW := um4 174 rfl rfl
theorem u_895 : (Cond.code ({ cls := "FanTalkModel", name := "wordOf", desc := "(II)I" } : MethodName) prog_14_method_13_code (3 : Nat) (Option.some ClassFile.FieldType.int)) ∈ UW := um4 175 rfl rfl
theorem u_896 : (Cond.methodLink "FanTalkLaw" (31 : Nat) ({ cls := "FanTalkModel", name := "draughts", desc := "(I)I" } : MethodName)) ∈ UW := um4 176 rfl rfl
theorem u_897 : (Cond.instanceMethod ({ cls := "FanTalkModel", name := "draughts", desc := "(I)I" } : MethodName)) ∈ UW := um4 177 rfl rfl
theorem u_898 : (Cond.selects "FanTalkModel" ({ cls := "FanTalkModel", name := "draughts", desc := "(I)I" } : MethodName) ({ cls := "FanTalkModel", name := "draughts", desc := "(I)I" } : MethodName)) ∈ UW := um4 178 rfl rfl
theorem u_899 : (Cond.code ({ cls := "FanTalkModel", name := "draughts", desc := "(I)I" } : MethodName) prog_14_method_21_code (3 : Nat) (Option.some ClassFile.FieldType.int)) ∈ UW := um4 179 rfl rfl
theorem u_900 : (Cond.methodLink "FanTalkLaw" (38 : Nat) ({ cls := "FanTalkModel", name := "type", desc := "(JI)I" } : MethodName)) ∈ UW := um4 180 rfl rfl
theorem u_901 : (Cond.instanceMethod ({ cls := "FanTalkModel", name := "type", desc := "(JI)I" } : MethodName)) ∈ UW := um4 181 rfl rfl
theorem u_902 : (Cond.selects "FanTalkModel" ({ cls := "FanTalkModel", name := "type", desc := "(JI)I" } : MethodName) ({ cls := "FanTalkModel", name := "type", desc := "(JI)I" } : MethodName)) ∈ UW := um4 182 rfl rfl
theorem u_903 : (Cond.code ({ cls := "FanTalkModel", name := "type", desc := "(JI)I" } : MethodName) prog_14_method_22_code (5 : Nat) (Option.some ClassFile.FieldType.int)) ∈ UW := um4 183 rfl rfl
theorem u_904 : (Cond.constantLong "FanTalkModel" (90 : Nat) (255 : Int64)) ∈ UW := um4 184 rfl rfl
theorem u_905 : (Cond.methodLink "FanTalkLaw" (42 : Nat) ({ cls := "FanTalkModel", name := "clear", desc := "()I" } : MethodName)) ∈ UW := um4 185 rfl rfl
theorem u_906 : (Cond.instanceMethod ({ cls := "FanTalkModel", name := "clear", desc := "()I" } : MethodName)) ∈ UW := um4 186 rfl rfl
theorem u_907 : (Cond.selects "FanTalkModel" ({ cls := "FanTalkModel", name := "clear", desc := "()I" } : MethodName) ({ cls := "FanTalkModel", name := "clear", desc := "()I" } : MethodName)) ∈ UW := um4 187 rfl rfl
theorem u_908 : (Cond.code ({ cls := "FanTalkModel", name := "clear", desc := "()I" } : MethodName) prog_14_method_23_code (2 : Nat) (Option.some ClassFile.FieldType.int)) ∈ UW := um4 188 rfl rfl
theorem u_909 : (Cond.methodLink "FanTalkLaw" (46 : Nat) ({ cls := "FanTalkModel", name := "read", desc := "()I" } : MethodName)) ∈ UW := um4 189 rfl rfl
theorem u_910 : (Cond.instanceMethod ({ cls := "FanTalkModel", name := "read", desc := "()I" } : MethodName)) ∈ UW := um4 190 rfl rfl
theorem u_911 : (Cond.selects "FanTalkModel" ({ cls := "FanTalkModel", name := "read", desc := "()I" } : MethodName) ({ cls := "FanTalkModel", name := "read", desc := "()I" } : MethodName)) ∈ UW := um4 191 rfl rfl
theorem u_912 : (Cond.code ({ cls := "FanTalkModel", name := "read", desc := "()I" } : MethodName) prog_14_method_30_code (2 : Nat) (Option.some ClassFile.FieldType.int)) ∈ UW := um4 192 rfl rfl
theorem u_913 : (Cond.methodLink "FanTalkModel" (126 : Nat) ({ cls := "FanTalkModel", name := "copy", desc := "(II)V" } : MethodName)) ∈ UW := um4 193 rfl rfl
theorem u_915 : (Cond.instanceMethod ({ cls := "FanTalkModel", name := "copy", desc := "(II)V" } : MethodName)) ∈ UW := um4 195 rfl rfl
theorem u_916 : (Cond.code ({ cls := "FanTalkModel", name := "copy", desc := "(II)V" } : MethodName) prog_14_method_9_code (4 : Nat) (Option.none : Option ClassFile.FieldType)) ∈ UW := um4 196 rfl rfl
theorem u_917 : (Cond.methodLink "FanTalkModel" (113 : Nat) ({ cls := "FanTalkModel", name := "next", desc := "()V" } : MethodName)) ∈ UW := um4 197 rfl rfl
theorem u_919 : (Cond.instanceMethod ({ cls := "FanTalkModel", name := "next", desc := "()V" } : MethodName)) ∈ UW := um4 199 rfl rfl
theorem u_920 : (Cond.code ({ cls := "FanTalkModel", name := "next", desc := "()V" } : MethodName) prog_14_method_25_code (5 : Nat) (Option.none : Option ClassFile.FieldType)) ∈ UW := um4 200 rfl rfl
theorem u_921 : (Cond.methodLink "FanTalkModel" (95 : Nat) ({ cls := "FanTalkModel", name := "here", desc := "()I" } : MethodName)) ∈ UW := um4 201 rfl rfl
theorem u_923 : (Cond.instanceMethod ({ cls := "FanTalkModel", name := "here", desc := "()I" } : MethodName)) ∈ UW := um4 203 rfl rfl
theorem u_924 : (Cond.code ({ cls := "FanTalkModel", name := "here", desc := "()I" } : MethodName) prog_14_method_24_code (1 : Nat) (Option.some ClassFile.FieldType.int)) ∈ UW := um4 204 rfl rfl
theorem u_925 : (Cond.constant "FanTalkModel" (107 : Nat) (66996755 : Int32)) ∈ UW := um4 205 rfl rfl
theorem u_926 : (Cond.constant "FanTalkModel" (108 : Nat) (70097 : Int32)) ∈ UW := um4 206 rfl rfl
theorem u_927 : (Cond.constant "FanTalkModel" (109 : Nat) (2947858 : Int32)) ∈ UW := um4 207 rfl rfl
theorem u_928 : (Cond.methodLink "FanTalkModel" (129 : Nat) ({ cls := "FanTalkModel", name := "readItem", desc := "()V" } : MethodName)) ∈ UW := um4 208 rfl rfl
theorem u_930 : (Cond.instanceMethod ({ cls := "FanTalkModel", name := "readItem", desc := "()V" } : MethodName)) ∈ UW := um4 210 rfl rfl
theorem u_931 : (Cond.code ({ cls := "FanTalkModel", name := "readItem", desc := "()V" } : MethodName) prog_14_method_29_code (2 : Nat) (Option.none : Option ClassFile.FieldType)) ∈ UW := um4 211 rfl rfl
theorem u_932 : (Cond.methodLink "FanTalkModel" (119 : Nat) ({ cls := "FanTalkModel", name := "due", desc := "(Z)I" } : MethodName)) ∈ UW := um4 212 rfl rfl
theorem u_934 : (Cond.instanceMethod ({ cls := "FanTalkModel", name := "due", desc := "(Z)I" } : MethodName)) ∈ UW := um4 214 rfl rfl
theorem u_935 : (Cond.code ({ cls := "FanTalkModel", name := "due", desc := "(Z)I" } : MethodName) prog_14_method_26_code (3 : Nat) (Option.some ClassFile.FieldType.int)) ∈ UW := um4 215 rfl rfl
theorem u_936 : (Cond.methodLink "FanTalkModel" (123 : Nat) ({ cls := "FanTalkModel", name := "readEntry", desc := "()V" } : MethodName)) ∈ UW := um4 216 rfl rfl
theorem u_938 : (Cond.instanceMethod ({ cls := "FanTalkModel", name := "readEntry", desc := "()V" } : MethodName)) ∈ UW := um4 218 rfl rfl
theorem u_939 : (Cond.code ({ cls := "FanTalkModel", name := "readEntry", desc := "()V" } : MethodName) prog_14_method_28_code (5 : Nat) (Option.none : Option ClassFile.FieldType)) ∈ UW := um4 219 rfl rfl
theorem u_940 : (Cond.methodLink "FanTalkModel" (116 : Nat) ({ cls := "FanTalkModel", name := "isNumber", desc := "(II)Z" } : MethodName)) ∈ UW := um4 220 rfl rfl
theorem u_942 : (Cond.instanceMethod ({ cls := "FanTalkModel", name := "isNumber", desc := "(II)Z" } : MethodName)) ∈ UW := um4 222 rfl rfl
theorem u_943 : (Cond.code ({ cls := "FanTalkModel", name := "isNumber", desc := "(II)Z" } : MethodName) prog_14_method_27_code (3 : Nat) (Option.some ClassFile.FieldType.boolean)) ∈ UW := um4 223 rfl rfl
theorem u_944 : (Cond.methodLink "FanTalkLaw" (50 : Nat) ({ cls := "FanTalkModel", name := "say", desc := "(I)I" } : MethodName)) ∈ UW := um4 224 rfl rfl
theorem u_945 : (Cond.instanceMethod ({ cls := "FanTalkModel", name := "say", desc := "(I)I" } : MethodName)) ∈ UW := um4 225 rfl rfl
theorem u_946 : (Cond.selects "FanTalkModel" ({ cls := "FanTalkModel", name := "say", desc := "(I)I" } : MethodName) ({ cls := "FanTalkModel", name := "say", desc := "(I)I" } : MethodName)) ∈ UW := um4 226 rfl rfl
theorem u_947 : (Cond.code ({ cls := "FanTalkModel", name := "say", desc := "(I)I" } : MethodName) prog_14_method_39_code (5 : Nat) (Option.some ClassFile.FieldType.int)) ∈ UW := um4 227 rfl rfl
theorem u_948 : (Cond.methodLink "FanTalkModel" (135 : Nat) ({ cls := "FanTalkModel", name := "stateOf", desc := "(III)I" } : MethodName)) ∈ UW := um4 228 rfl rfl
theorem u_949 : (Cond.static ({ cls := "FanTalkModel", name := "stateOf", desc := "(III)I" } : MethodName)) ∈ UW := um4 229 rfl rfl
theorem u_950 : (Cond.code ({ cls := "FanTalkModel", name := "stateOf", desc := "(III)I" } : MethodName) prog_14_method_15_code (5 : Nat) (Option.some ClassFile.FieldType.int)) ∈ UW := um4 230 rfl rfl
theorem u_951 : (Cond.methodLink "FanTalkModel" (151 : Nat) ({ cls := "FanTalkModel", name := "isLawful", desc := "(II)Z" } : MethodName)) ∈ UW := um4 231 rfl rfl
theorem u_952 : (Cond.static ({ cls := "FanTalkModel", name := "isLawful", desc := "(II)Z" } : MethodName)) ∈ UW := um4 232 rfl rfl
theorem u_953 : (Cond.code ({ cls := "FanTalkModel", name := "isLawful", desc := "(II)Z" } : MethodName) prog_14_method_38_code (2 : Nat) (Option.some ClassFile.FieldType.boolean)) ∈ UW := um4 233 rfl rfl
theorem u_954 : (Cond.methodLink "FanTalkLaw" (54 : Nat) ({ cls := "FanTalkModel", name := "seen", desc := "(I)I" } : MethodName)) ∈ UW := um4 234 rfl rfl
theorem u_955 : (Cond.instanceMethod ({ cls := "FanTalkModel", name := "seen", desc := "(I)I" } : MethodName)) ∈ UW := um4 235 rfl rfl
theorem u_956 : (Cond.selects "FanTalkModel" ({ cls := "FanTalkModel", name := "seen", desc := "(I)I" } : MethodName) ({ cls := "FanTalkModel", name := "seen", desc := "(I)I" } : MethodName)) ∈ UW := um4 236 rfl rfl
theorem u_957 : (Cond.code ({ cls := "FanTalkModel", name := "seen", desc := "(I)I" } : MethodName) prog_14_method_40_code (2 : Nat) (Option.some ClassFile.FieldType.int)) ∈ UW := um4 237 rfl rfl
theorem u_958 : (Cond.methodLink "FanTalkModel" (154 : Nat) ({ cls := "FanTalkModel", name := "make", desc := "(I)V" } : MethodName)) ∈ UW := um4 238 rfl rfl
theorem u_960 : (Cond.instanceMethod ({ cls := "FanTalkModel", name := "make", desc := "(I)V" } : MethodName)) ∈ UW := um5 0 rfl rfl
theorem u_961 : (Cond.code ({ cls := "FanTalkModel", name := "make", desc := "(I)V" } : MethodName) prog_14_method_31_code (3 : Nat) (Option.none : Option ClassFile.FieldType)) ∈ UW := um5 1 rfl rfl
theorem u_962 : (Cond.methodLink "FanTalkModel" (139 : Nat) ({ cls := "FanTalkModel", name := "blown", desc := "(I)I" } : MethodName)) ∈ UW := um5 2 rfl rfl
theorem u_963 : (Cond.static ({ cls := "FanTalkModel", name := "blown", desc := "(I)I" } : MethodName)) ∈ UW := um5 3 rfl rfl
theorem u_964 : (Cond.code ({ cls := "FanTalkModel", name := "blown", desc := "(I)I" } : MethodName) prog_14_method_32_code (1 : Nat) (Option.some ClassFile.FieldType.int)) ∈ UW := um5 4 rfl rfl
theorem u_965 : (Cond.methodLink "FanTalkLaw" (58 : Nat) ({ cls := "FanTalkModel", name := "reads", desc := "(III)I" } : MethodName)) ∈ UW := um5 5 rfl rfl
theorem u_966 : (Cond.instanceMethod ({ cls := "FanTalkModel", name := "reads", desc := "(III)I" } : MethodName)) ∈ UW := um5 6 rfl rfl
theorem u_967 : (Cond.selects "FanTalkModel" ({ cls := "FanTalkModel", name := "reads", desc := "(III)I" } : MethodName) ({ cls := "FanTalkModel", name := "reads", desc := "(III)I" } : MethodName)) ∈ UW := um5 7 rfl rfl
theorem u_968 : (Cond.code ({ cls := "FanTalkModel", name := "reads", desc := "(III)I" } : MethodName) prog_14_method_42_code (4 : Nat) (Option.some ClassFile.FieldType.int)) ∈ UW := um5 8 rfl rfl
theorem u_969 : (Cond.methodLink "FanTalkModel" (161 : Nat) ({ cls := "FanTalkModel", name := "isKind", desc := "(I)Z" } : MethodName)) ∈ UW := um5 9 rfl rfl
theorem u_970 : (Cond.static ({ cls := "FanTalkModel", name := "isKind", desc := "(I)Z" } : MethodName)) ∈ UW := um5 10 rfl rfl
theorem u_971 : (Cond.code ({ cls := "FanTalkModel", name := "isKind", desc := "(I)Z" } : MethodName) prog_14_method_37_code (1 : Nat) (Option.some ClassFile.FieldType.boolean)) ∈ UW := um5 11 rfl rfl
theorem u_972 : (Cond.methodLink "FanTalkModel" (164 : Nat) ({ cls := "FanTalkModel", name := "readSaying", desc := "(II)V" } : MethodName)) ∈ UW := um5 12 rfl rfl
theorem u_974 : (Cond.instanceMethod ({ cls := "FanTalkModel", name := "readSaying", desc := "(II)V" } : MethodName)) ∈ UW := um5 14 rfl rfl
theorem u_975 : (Cond.code ({ cls := "FanTalkModel", name := "readSaying", desc := "(II)V" } : MethodName) prog_14_method_41_code (3 : Nat) (Option.none : Option ClassFile.FieldType)) ∈ UW := um5 15 rfl rfl
theorem u_976 : (Cond.methodLink "FanTalkModel" (158 : Nat) ({ cls := "FanTalkModel", name := "readBy", desc := "(III)V" } : MethodName)) ∈ UW := um5 16 rfl rfl
theorem u_978 : (Cond.instanceMethod ({ cls := "FanTalkModel", name := "readBy", desc := "(III)V" } : MethodName)) ∈ UW := um5 18 rfl rfl
theorem u_979 : (Cond.code ({ cls := "FanTalkModel", name := "readBy", desc := "(III)V" } : MethodName) prog_14_method_35_code (10 : Nat) (Option.none : Option ClassFile.FieldType)) ∈ UW := um5 19 rfl rfl
theorem u_980 : (Cond.methodLink "FanTalkModel" (142 : Nat) ({ cls := "FanTalkModel", name := "seenBy", desc := "(III)I" } : MethodName)) ∈ UW := um5 20 rfl rfl
theorem u_981 : (Cond.static ({ cls := "FanTalkModel", name := "seenBy", desc := "(III)I" } : MethodName)) ∈ UW := um5 21 rfl rfl
theorem u_982 : (Cond.code ({ cls := "FanTalkModel", name := "seenBy", desc := "(III)I" } : MethodName) prog_14_method_33_code (3 : Nat) (Option.some ClassFile.FieldType.int)) ∈ UW := um5 22 rfl rfl
theorem u_983 : (Cond.methodLink "FanTalkModel" (148 : Nat) ({ cls := "FanTalkModel", name := "fits", desc := "(III)Z" } : MethodName)) ∈ UW := um5 23 rfl rfl
theorem u_985 : (Cond.instanceMethod ({ cls := "FanTalkModel", name := "fits", desc := "(III)Z" } : MethodName)) ∈ UW := um5 25 rfl rfl
theorem u_986 : (Cond.code ({ cls := "FanTalkModel", name := "fits", desc := "(III)Z" } : MethodName) prog_14_method_34_code (6 : Nat) (Option.some ClassFile.FieldType.boolean)) ∈ UW := um5 26 rfl rfl
theorem u_987 : (Cond.methodLink "FanTalkLaw" (63 : Nat) ({ cls := "FanTalkModel", name := "otherwise", desc := "(IIII)I" } : MethodName)) ∈ UW := um5 27 rfl rfl
theorem u_988 : (Cond.instanceMethod ({ cls := "FanTalkModel", name := "otherwise", desc := "(IIII)I" } : MethodName)) ∈ UW := um5 28 rfl rfl
theorem u_989 : (Cond.selects "FanTalkModel" ({ cls := "FanTalkModel", name := "otherwise", desc := "(IIII)I" } : MethodName) ({ cls := "FanTalkModel", name := "otherwise", desc := "(IIII)I" } : MethodName)) ∈ UW := um5 29 rfl rfl
theorem u_990 : (Cond.code ({ cls := "FanTalkModel", name := "otherwise", desc := "(IIII)I" } : MethodName) prog_14_method_43_code (8 : Nat) (Option.some ClassFile.FieldType.int)) ∈ UW := um5 30 rfl rfl
theorem u_991 : (Cond.methodLink "FanTalkLaw" (67 : Nat) ({ cls := "FanTalkModel", name := "utter", desc := "(I)I" } : MethodName)) ∈ UW := um5 31 rfl rfl
theorem u_992 : (Cond.instanceMethod ({ cls := "FanTalkModel", name := "utter", desc := "(I)I" } : MethodName)) ∈ UW := um5 32 rfl rfl
theorem u_993 : (Cond.selects "FanTalkModel" ({ cls := "FanTalkModel", name := "utter", desc := "(I)I" } : MethodName) ({ cls := "FanTalkModel", name := "utter", desc := "(I)I" } : MethodName)) ∈ UW := um5 33 rfl rfl
theorem u_994 : (Cond.code ({ cls := "FanTalkModel", name := "utter", desc := "(I)I" } : MethodName) prog_14_method_45_code (4 : Nat) (Option.some ClassFile.FieldType.int)) ∈ UW := um5 34 rfl rfl
theorem u_995 : (Cond.methodLink "FanTalkModel" (167 : Nat) ({ cls := "FanTalkModel", name := "know", desc := "()V" } : MethodName)) ∈ UW := um5 35 rfl rfl
theorem u_997 : (Cond.instanceMethod ({ cls := "FanTalkModel", name := "know", desc := "()V" } : MethodName)) ∈ UW := um5 37 rfl rfl
theorem u_998 : (Cond.code ({ cls := "FanTalkModel", name := "know", desc := "()V" } : MethodName) prog_14_method_44_code (2 : Nat) (Option.none : Option ClassFile.FieldType)) ∈ UW := um5 38 rfl rfl
theorem u_999 : (Cond.methodLink "FanTalkLaw" (71 : Nat) ({ cls := "FanTalkModel", name := "uses", desc := "(I)I" } : MethodName)) ∈ UW := um5 39 rfl rfl
theorem u_1000 : (Cond.instanceMethod ({ cls := "FanTalkModel", name := "uses", desc := "(I)I" } : MethodName)) ∈ UW := um5 40 rfl rfl
theorem u_1001 : (Cond.selects "FanTalkModel" ({ cls := "FanTalkModel", name := "uses", desc := "(I)I" } : MethodName) ({ cls := "FanTalkModel", name := "uses", desc := "(I)I" } : MethodName)) ∈ UW := um5 41 rfl rfl
theorem u_1002 : (Cond.code ({ cls := "FanTalkModel", name := "uses", desc := "(I)I" } : MethodName) prog_14_method_46_code (2 : Nat) (Option.some ClassFile.FieldType.int)) ∈ UW := um5 42 rfl rfl
theorem u_1003 : (Cond.methodLink "FanTalkLaw" (75 : Nat) ({ cls := "FanTalkModel", name := "year", desc := "()I" } : MethodName)) ∈ UW := um5 43 rfl rfl
theorem u_1004 : (Cond.instanceMethod ({ cls := "FanTalkModel", name := "year", desc := "()I" } : MethodName)) ∈ UW := um5 44 rfl rfl
theorem u_1005 : (Cond.selects "FanTalkModel" ({ cls := "FanTalkModel", name := "year", desc := "()I" } : MethodName) ({ cls := "FanTalkModel", name := "year", desc := "()I" } : MethodName)) ∈ UW := um5 45 rfl rfl
theorem u_1006 : (Cond.code ({ cls := "FanTalkModel", name := "year", desc := "()I" } : MethodName) prog_14_method_47_code (6 : Nat) (Option.some ClassFile.FieldType.int)) ∈ UW := um5 46 rfl rfl
theorem u_1007 : (Cond.methodLink "FanTalkLaw" (79 : Nat) ({ cls := "FanTalkModel", name := "undo", desc := "()I" } : MethodName)) ∈ UW := um5 47 rfl rfl
theorem u_1008 : (Cond.instanceMethod ({ cls := "FanTalkModel", name := "undo", desc := "()I" } : MethodName)) ∈ UW := um5 48 rfl rfl
theorem u_1009 : (Cond.selects "FanTalkModel" ({ cls := "FanTalkModel", name := "undo", desc := "()I" } : MethodName) ({ cls := "FanTalkModel", name := "undo", desc := "()I" } : MethodName)) ∈ UW := um5 49 rfl rfl
theorem u_1010 : (Cond.code ({ cls := "FanTalkModel", name := "undo", desc := "()I" } : MethodName) prog_14_method_48_code (2 : Nat) (Option.some ClassFile.FieldType.int)) ∈ UW := um5 50 rfl rfl
theorem u_1011 : (Cond.methodLink "FanTalkLaw" (83 : Nat) ({ cls := "FanTalkModel", name := "want", desc := "(I)I" } : MethodName)) ∈ UW := um5 51 rfl rfl
theorem u_1012 : (Cond.instanceMethod ({ cls := "FanTalkModel", name := "want", desc := "(I)I" } : MethodName)) ∈ UW := um5 52 rfl rfl
theorem u_1013 : (Cond.selects "FanTalkModel" ({ cls := "FanTalkModel", name := "want", desc := "(I)I" } : MethodName) ({ cls := "FanTalkModel", name := "want", desc := "(I)I" } : MethodName)) ∈ UW := um5 53 rfl rfl
theorem u_1014 : (Cond.code ({ cls := "FanTalkModel", name := "want", desc := "(I)I" } : MethodName) prog_14_method_49_code (2 : Nat) (Option.some ClassFile.FieldType.int)) ∈ UW := um5 54 rfl rfl
theorem u_1015 : (Cond.methodLink "FanTalkLaw" (87 : Nat) ({ cls := "FanTalkModel", name := "forget", desc := "()I" } : MethodName)) ∈ UW := um5 55 rfl rfl
theorem u_1016 : (Cond.instanceMethod ({ cls := "FanTalkModel", name := "forget", desc := "()I" } : MethodName)) ∈ UW := um5 56 rfl rfl
theorem u_1017 : (Cond.selects "FanTalkModel" ({ cls := "FanTalkModel", name := "forget", desc := "()I" } : MethodName) ({ cls := "FanTalkModel", name := "forget", desc := "()I" } : MethodName)) ∈ UW := um5 57 rfl rfl
theorem u_1018 : (Cond.code ({ cls := "FanTalkModel", name := "forget", desc := "()I" } : MethodName) prog_14_method_50_code (2 : Nat) (Option.some ClassFile.FieldType.int)) ∈ UW := um5 58 rfl rfl
theorem u_1019 : (Cond.methodLink "FanTalkLaw" (91 : Nat) ({ cls := "FanTalkModel", name := "hide", desc := "(III)I" } : MethodName)) ∈ UW := um5 59 rfl rfl
theorem u_1020 : (Cond.instanceMethod ({ cls := "FanTalkModel", name := "hide", desc := "(III)I" } : MethodName)) ∈ UW := um5 60 rfl rfl
theorem u_1021 : (Cond.selects "FanTalkModel" ({ cls := "FanTalkModel", name := "hide", desc := "(III)I" } : MethodName) ({ cls := "FanTalkModel", name := "hide", desc := "(III)I" } : MethodName)) ∈ UW := um5 61 rfl rfl
theorem u_1022 : (Cond.code ({ cls := "FanTalkModel", name := "hide", desc := "(III)I" } : MethodName) prog_14_method_55_code (6 : Nat) (Option.some ClassFile.FieldType.int)) ∈ UW := um5 62 rfl rfl
theorem u_1023 : (Cond.methodLink "FanTalkModel" (170 : Nat) ({ cls := "FanTalkModel", name := "makeLeast", desc := "(I)V" } : MethodName)) ∈ UW := um5 63 rfl rfl
theorem u_1025 : (Cond.instanceMethod ({ cls := "FanTalkModel", name := "makeLeast", desc := "(I)V" } : MethodName)) ∈ UW := um5 65 rfl rfl
theorem u_1026 : (Cond.code ({ cls := "FanTalkModel", name := "makeLeast", desc := "(I)V" } : MethodName) prog_14_method_54_code (3 : Nat) (Option.none : Option ClassFile.FieldType)) ∈ UW := um5 66 rfl rfl
theorem u_1027 : (Cond.methodLink "FanTalkModel" (173 : Nat) ({ cls := "FanTalkModel", name := "readsWant", desc := "()Z" } : MethodName)) ∈ UW := um5 67 rfl rfl
theorem u_1029 : (Cond.instanceMethod ({ cls := "FanTalkModel", name := "readsWant", desc := "()Z" } : MethodName)) ∈ UW := um5 69 rfl rfl
theorem u_1030 : (Cond.code ({ cls := "FanTalkModel", name := "readsWant", desc := "()Z" } : MethodName) prog_14_method_51_code (3 : Nat) (Option.some ClassFile.FieldType.boolean)) ∈ UW := um5 70 rfl rfl
theorem u_1031 : (Cond.methodLink "FanTalkModel" (177 : Nat) ({ cls := "FanTalkModel", name := "madeRow", desc := "()I" } : MethodName)) ∈ UW := um5 71 rfl rfl
theorem u_1033 : (Cond.instanceMethod ({ cls := "FanTalkModel", name := "madeRow", desc := "()I" } : MethodName)) ∈ UW := um5 73 rfl rfl
theorem u_1034 : (Cond.code ({ cls := "FanTalkModel", name := "madeRow", desc := "()I" } : MethodName) prog_14_method_52_code (3 : Nat) (Option.some ClassFile.FieldType.int)) ∈ UW := um5 74 rfl rfl
theorem u_1035 : (Cond.methodLink "FanTalkModel" (180 : Nat) ({ cls := "FanTalkModel", name := "goOn", desc := "(I)Z" } : MethodName)) ∈ UW := um5 75 rfl rfl
theorem u_1037 : (Cond.instanceMethod ({ cls := "FanTalkModel", name := "goOn", desc := "(I)Z" } : MethodName)) ∈ UW := um5 77 rfl rfl
theorem u_1038 : (Cond.code ({ cls := "FanTalkModel", name := "goOn", desc := "(I)Z" } : MethodName) prog_14_method_53_code (4 : Nat) (Option.some ClassFile.FieldType.boolean)) ∈ UW := um5 78 rfl rfl
theorem u_1039 : (Cond.methodLink "FanTalkLaw" (95 : Nat) ({ cls := "FanTalkModel", name := "save", desc := "(III)I" } : MethodName)) ∈ UW := um5 79 rfl rfl
theorem u_1040 : (Cond.instanceMethod ({ cls := "FanTalkModel", name := "save", desc := "(III)I" } : MethodName)) ∈ UW := um5 80 rfl rfl
theorem u_1041 : (Cond.selects "FanTalkModel" ({ cls := "FanTalkModel", name := "save", desc := "(III)I" } : MethodName) ({ cls := "FanTalkModel", name := "save", desc := "(III)I" } : MethodName)) ∈ UW := um5 81 rfl rfl
theorem u_1042 : (Cond.code ({ cls := "FanTalkModel", name := "save", desc := "(III)I" } : MethodName) prog_14_method_57_code (9 : Nat) (Option.some ClassFile.FieldType.int)) ∈ UW := um5 82 rfl rfl
theorem u_1043 : (Cond.methodLink "FanTalkModel" (183 : Nat) ({ cls := "FanTalkModel", name := "apart", desc := "(I)I" } : MethodName)) ∈ UW := um5 83 rfl rfl
theorem u_1045 : (Cond.instanceMethod ({ cls := "FanTalkModel", name := "apart", desc := "(I)I" } : MethodName)) ∈ UW := um5 85 rfl rfl
theorem u_1046 : (Cond.code ({ cls := "FanTalkModel", name := "apart", desc := "(I)I" } : MethodName) prog_14_method_56_code (4 : Nat) (Option.some ClassFile.FieldType.int)) ∈ UW := um5 86 rfl rfl
theorem u_1047 : (Cond.methodLink "FanTalkModel" (186 : Nat) ({ cls := "FanTalkModel", name := "hasRead", desc := "(I)Z" } : MethodName)) ∈ UW := um5 87 rfl rfl
theorem u_1049 : (Cond.instanceMethod ({ cls := "FanTalkModel", name := "hasRead", desc := "(I)Z" } : MethodName)) ∈ UW := um5 89 rfl rfl
theorem u_1050 : (Cond.code ({ cls := "FanTalkModel", name := "hasRead", desc := "(I)Z" } : MethodName) prog_14_method_36_code (4 : Nat) (Option.some ClassFile.FieldType.boolean)) ∈ UW := um5 90 rfl rfl
theorem u_1051 : (Cond.methodLink "FanTalkLaw" (99 : Nat) ({ cls := "FanTalkModel", name := "safe", desc := "(I)I" } : MethodName)) ∈ UW := um5 91 rfl rfl
theorem u_1052 : (Cond.instanceMethod ({ cls := "FanTalkModel", name := "safe", desc := "(I)I" } : MethodName)) ∈ UW := um5 92 rfl rfl
theorem u_1053 : (Cond.selects "FanTalkModel" ({ cls := "FanTalkModel", name := "safe", desc := "(I)I" } : MethodName) ({ cls := "FanTalkModel", name := "safe", desc := "(I)I" } : MethodName)) ∈ UW := um5 93 rfl rfl
theorem u_1054 : (Cond.code ({ cls := "FanTalkModel", name := "safe", desc := "(I)I" } : MethodName) prog_14_method_58_code (8 : Nat) (Option.some ClassFile.FieldType.int)) ∈ UW := um5 94 rfl rfl
theorem u_1055 : (Cond.methodLink "FanTalkLaw" (104 : Nat) ({ cls := "FanTalkModel", name := "fact", desc := "(II)I" } : MethodName)) ∈ UW := um5 95 rfl rfl
theorem u_1056 : (Cond.instanceMethod ({ cls := "FanTalkModel", name := "fact", desc := "(II)I" } : MethodName)) ∈ UW := um5 96 rfl rfl
theorem u_1057 : (Cond.selects "FanTalkModel" ({ cls := "FanTalkModel", name := "fact", desc := "(II)I" } : MethodName) ({ cls := "FanTalkModel", name := "fact", desc := "(II)I" } : MethodName)) ∈ UW := um5 97 rfl rfl
theorem u_1058 : (Cond.code ({ cls := "FanTalkModel", name := "fact", desc := "(II)I" } : MethodName) prog_14_method_59_code (3 : Nat) (Option.some ClassFile.FieldType.int)) ∈ UW := um5 98 rfl rfl
theorem u_1059 : (Cond.methodLink "FanTalkLaw" (108 : Nat) ({ cls := "FanTalkModel", name := "mayBe", desc := "()I" } : MethodName)) ∈ UW := um5 99 rfl rfl
theorem u_1060 : (Cond.instanceMethod ({ cls := "FanTalkModel", name := "mayBe", desc := "()I" } : MethodName)) ∈ UW := um5 100 rfl rfl
theorem u_1061 : (Cond.selects "FanTalkModel" ({ cls := "FanTalkModel", name := "mayBe", desc := "()I" } : MethodName) ({ cls := "FanTalkModel", name := "mayBe", desc := "()I" } : MethodName)) ∈ UW := um5 101 rfl rfl
theorem u_1062 : (Cond.code ({ cls := "FanTalkModel", name := "mayBe", desc := "()I" } : MethodName) prog_14_method_60_code (5 : Nat) (Option.some ClassFile.FieldType.int)) ∈ UW := um5 102 rfl rfl
theorem u_1063 : (Cond.methodLink "FanTalkLaw" (113 : Nat) ({ cls := "FanTalkModel", name := "heat", desc := "(IIIII)I" } : MethodName)) ∈ UW := um5 103 rfl rfl
theorem u_1064 : (Cond.instanceMethod ({ cls := "FanTalkModel", name := "heat", desc := "(IIIII)I" } : MethodName)) ∈ UW := um5 104 rfl rfl
theorem u_1065 : (Cond.selects "FanTalkModel" ({ cls := "FanTalkModel", name := "heat", desc := "(IIIII)I" } : MethodName) ({ cls := "FanTalkModel", name := "heat", desc := "(IIIII)I" } : MethodName)) ∈ UW := um5 105 rfl rfl
theorem u_1066 : (Cond.code ({ cls := "FanTalkModel", name := "heat", desc := "(IIIII)I" } : MethodName) prog_14_method_61_code (10 : Nat) (Option.some ClassFile.FieldType.int)) ∈ UW := um5 106 rfl rfl
theorem u_1067 : (Cond.constant "FanTalkModel" (189 : Nat) (999999 : Int32)) ∈ UW := um5 107 rfl rfl
theorem u_1068 : (Cond.constantLong "FanTalkModel" (190 : Nat) (1103515245 : Int64)) ∈ UW := um5 108 rfl rfl
theorem u_1069 : (Cond.constantLong "FanTalkModel" (192 : Nat) (12345 : Int64)) ∈ UW := um5 109 rfl rfl
theorem u_1070 : (Cond.constantLong "FanTalkModel" (194 : Nat) (2147483648 : Int64)) ∈ UW := um5 110 rfl rfl
theorem u_1071 : (Cond.constantLong "FanTalkModel" (196 : Nat) (65536 : Int64)) ∈ UW := um5 111 rfl rfl
theorem u_1072 : (Cond.constantLong "FanTalkModel" (198 : Nat) (12 : Int64)) ∈ UW := um5 112 rfl rfl
theorem u_1073 : (Cond.methodLink "FanTalkLaw" (117 : Nat) ({ cls := "FanTalkModel", name := "image", desc := "(I)I" } : MethodName)) ∈ UW := um5 113 rfl rfl
theorem u_1074 : (Cond.instanceMethod ({ cls := "FanTalkModel", name := "image", desc := "(I)I" } : MethodName)) ∈ UW := um5 114 rfl rfl
theorem u_1075 : (Cond.selects "FanTalkModel" ({ cls := "FanTalkModel", name := "image", desc := "(I)I" } : MethodName) ({ cls := "FanTalkModel", name := "image", desc := "(I)I" } : MethodName)) ∈ UW := um5 115 rfl rfl
theorem u_1076 : (Cond.code ({ cls := "FanTalkModel", name := "image", desc := "(I)I" } : MethodName) prog_14_method_62_code (2 : Nat) (Option.some ClassFile.FieldType.int)) ∈ UW := um5 116 rfl rfl
theorem u_1077 : (Cond.methodLink "FanTalkLaw" (121 : Nat) ({ cls := "FanTalkModel", name := "from", desc := "(I)I" } : MethodName)) ∈ UW := um5 117 rfl rfl
theorem u_1078 : (Cond.instanceMethod ({ cls := "FanTalkModel", name := "from", desc := "(I)I" } : MethodName)) ∈ UW := um5 118 rfl rfl
theorem u_1079 : (Cond.selects "FanTalkModel" ({ cls := "FanTalkModel", name := "from", desc := "(I)I" } : MethodName) ({ cls := "FanTalkModel", name := "from", desc := "(I)I" } : MethodName)) ∈ UW := um5 119 rfl rfl
theorem u_1080 : (Cond.code ({ cls := "FanTalkModel", name := "from", desc := "(I)I" } : MethodName) prog_14_method_63_code (2 : Nat) (Option.some ClassFile.FieldType.int)) ∈ UW := um5 120 rfl rfl
theorem u_1081 : (Cond.methodLink "FanTalkLaw" (125 : Nat) ({ cls := "FanTalkModel", name := "status", desc := "(I)I" } : MethodName)) ∈ UW := um5 121 rfl rfl
theorem u_1082 : (Cond.instanceMethod ({ cls := "FanTalkModel", name := "status", desc := "(I)I" } : MethodName)) ∈ UW := um5 122 rfl rfl
theorem u_1083 : (Cond.selects "FanTalkModel" ({ cls := "FanTalkModel", name := "status", desc := "(I)I" } : MethodName) ({ cls := "FanTalkModel", name := "status", desc := "(I)I" } : MethodName)) ∈ UW := um5 123 rfl rfl
theorem u_1084 : (Cond.code ({ cls := "FanTalkModel", name := "status", desc := "(I)I" } : MethodName) prog_14_method_64_code (2 : Nat) (Option.some ClassFile.FieldType.int)) ∈ UW := um5 124 rfl rfl
theorem u_1085 : (Cond.methodLink "FanTalkLaw" (129 : Nat) ({ cls := "FanTalkModel", name := "count", desc := "(I)I" } : MethodName)) ∈ UW := um5 125 rfl rfl
theorem u_1086 : (Cond.instanceMethod ({ cls := "FanTalkModel", name := "count", desc := "(I)I" } : MethodName)) ∈ UW := um5 126 rfl rfl
theorem u_1087 : (Cond.selects "FanTalkModel" ({ cls := "FanTalkModel", name := "count", desc := "(I)I" } : MethodName) ({ cls := "FanTalkModel", name := "count", desc := "(I)I" } : MethodName)) ∈ UW := um5 127 rfl rfl
theorem u_1088 : (Cond.code ({ cls := "FanTalkModel", name := "count", desc := "(I)I" } : MethodName) prog_14_method_67_code (2 : Nat) (Option.some ClassFile.FieldType.int)) ∈ UW := um5 128 rfl rfl
theorem u_1089 : (Cond.methodLink "FanTalkModel" (203 : Nat) ({ cls := "FanTalkModel", name := "counted", desc := "(I)I" } : MethodName)) ∈ UW := um5 129 rfl rfl
theorem u_1091 : (Cond.instanceMethod ({ cls := "FanTalkModel", name := "counted", desc := "(I)I" } : MethodName)) ∈ UW := um5 131 rfl rfl
theorem u_1092 : (Cond.code ({ cls := "FanTalkModel", name := "counted", desc := "(I)I" } : MethodName) prog_14_method_66_code (2 : Nat) (Option.some ClassFile.FieldType.int)) ∈ UW := um5 132 rfl rfl
theorem u_1093 : (Cond.methodLink "FanTalkModel" (200 : Nat) ({ cls := "FanTalkModel", name := "allEntries", desc := "()I" } : MethodName)) ∈ UW := um5 133 rfl rfl
theorem u_1095 : (Cond.instanceMethod ({ cls := "FanTalkModel", name := "allEntries", desc := "()I" } : MethodName)) ∈ UW := um5 135 rfl rfl
theorem u_1096 : (Cond.code ({ cls := "FanTalkModel", name := "allEntries", desc := "()I" } : MethodName) prog_14_method_65_code (3 : Nat) (Option.some ClassFile.FieldType.int)) ∈ UW := um5 136 rfl rfl
theorem u_1097 : (Cond.methodLink "FanTalkLaw" (134 : Nat) ({ cls := "FanTalkModel", name := "digest", desc := "()J" } : MethodName)) ∈ UW := um5 137 rfl rfl
theorem u_1098 : (Cond.instanceMethod ({ cls := "FanTalkModel", name := "digest", desc := "()J" } : MethodName)) ∈ UW := um5 138 rfl rfl
theorem u_1099 : (Cond.selects "FanTalkModel" ({ cls := "FanTalkModel", name := "digest", desc := "()J" } : MethodName) ({ cls := "FanTalkModel", name := "digest", desc := "()J" } : MethodName)) ∈ UW := um5 139 rfl rfl
theorem u_1100 : (Cond.code ({ cls := "FanTalkModel", name := "digest", desc := "()J" } : MethodName) prog_14_method_68_code (5 : Nat) (Option.some ClassFile.FieldType.long)) ∈ UW := um5 140 rfl rfl
theorem u_1101 : (Cond.constantLong "FanTalkModel" (206 : Nat) (811 : Int64)) ∈ UW := um5 141 rfl rfl
theorem u_1102 : (Cond.constantLong "FanTalkModel" (208 : Nat) (31 : Int64)) ∈ UW := um5 142 rfl rfl
theorem u_1103 : (Cond.constantLong "FanTalkLaw" (32 : Nat) (4294967295 : Int64)) ∈ UW := um5 143 rfl rfl
theorem u_1104 : (Cond.sameMethod "FanTalk$Chaperone" "FanTalk$Chaperone" "sees" "(II)I") ∈ UW := um5 144 rfl rfl
theorem u_1105 : (Cond.sameMethod "FanTalk$Friend" "FanTalk$Friend" "choice" "(II)I") ∈ UW := um5 145 rfl rfl
theorem u_1106 : (Cond.sameMethod "FanTalk$Friend" "FanTalk$Friend" "shows" "(II)Z") ∈ UW := um5 146 rfl rfl
theorem u_1111 : (Cond.fieldLink "java/lang/String" (9 : Nat) "java/lang/String" "value" "[B") ∈ UW := um5 151 rfl rfl
theorem u_1112 : (Cond.fieldLink "java/lang/String" (15 : Nat) "java/lang/String" "coder" "B") ∈ UW := um5 152 rfl rfl
theorem us_0 : Cond.selects "FanTalk" ⟨"FanTalk", "refused", "(II)I"⟩ ⟨"FanTalk", "refused", "(II)I"⟩ ∈ UW := um0 (⟨"FanTalk", "refused", "(II)I"⟩, 11) (List.mem_of_getElem? (i := 0) rfl) rfl
theorem us_1 : Cond.selects "FanTalk" ⟨"FanTalk", "isCode", "(I)Z"⟩ ⟨"FanTalk", "isCode", "(I)Z"⟩ ∈ UW := um0 (⟨"FanTalk", "isCode", "(I)Z"⟩, 11) (List.mem_of_getElem? (i := 1) rfl) rfl
theorem us_2 : Cond.selects "FanTalk$Codes" ⟨"FanTalk$Codes", "put", "(IIII)V"⟩ ⟨"FanTalk$Codes", "put", "(IIII)V"⟩ ∈ UW := um0 (⟨"FanTalk$Codes", "put", "(IIII)V"⟩, 5) (List.mem_of_getElem? (i := 2) rfl) rfl
theorem us_3 : Cond.selects "FanTalk$Script" ⟨"FanTalk$Script", "goOn", "()V"⟩ ⟨"FanTalk$Script", "goOn", "()V"⟩ ∈ UW := um0 (⟨"FanTalk$Script", "goOn", "()V"⟩, 9) (List.mem_of_getElem? (i := 3) rfl) rfl
theorem us_4 : Cond.selects "FanTalk$Script" ⟨"FanTalk$Script", "goOverLetters", "()V"⟩ ⟨"FanTalk$Script", "goOverLetters", "()V"⟩ ∈ UW := um0 (⟨"FanTalk$Script", "goOverLetters", "()V"⟩, 9) (List.mem_of_getElem? (i := 4) rfl) rfl
theorem us_5 : Cond.selects "FanTalk$Script" ⟨"FanTalk$Script", "goOverFigures", "()V"⟩ ⟨"FanTalk$Script", "goOverFigures", "()V"⟩ ∈ UW := um0 (⟨"FanTalk$Script", "goOverFigures", "()V"⟩, 9) (List.mem_of_getElem? (i := 5) rfl) rfl
theorem us_6 : Cond.selects "FanTalk$Script" ⟨"FanTalk$Script", "isItem", "()Z"⟩ ⟨"FanTalk$Script", "isItem", "()Z"⟩ ∈ UW := um0 (⟨"FanTalk$Script", "isItem", "()Z"⟩, 9) (List.mem_of_getElem? (i := 6) rfl) rfl
theorem us_7 : Cond.selects "FanTalk$Script" ⟨"FanTalk$Script", "isName", "(Ljava/lang/String;)Z"⟩ ⟨"FanTalk$Script", "isName", "(Ljava/lang/String;)Z"⟩ ∈ UW := um0 (⟨"FanTalk$Script", "isName", "(Ljava/lang/String;)Z"⟩, 9) (List.mem_of_getElem? (i := 7) rfl) rfl
theorem us_8 : Cond.selects "FanTalk$Script" ⟨"FanTalk$Script", "isCodeItem", "()Z"⟩ ⟨"FanTalk$Script", "isCodeItem", "()Z"⟩ ∈ UW := um0 (⟨"FanTalk$Script", "isCodeItem", "()Z"⟩, 9) (List.mem_of_getElem? (i := 8) rfl) rfl
theorem us_9 : Cond.selects "FanTalk$Script" ⟨"FanTalk$Script", "isEntryItem", "()Z"⟩ ⟨"FanTalk$Script", "isEntryItem", "()Z"⟩ ∈ UW := um0 (⟨"FanTalk$Script", "isEntryItem", "()Z"⟩, 9) (List.mem_of_getElem? (i := 9) rfl) rfl
theorem us_10 : Cond.selects "FanTalk$Script" ⟨"FanTalk$Script", "isNumberBelow", "(I)Z"⟩ ⟨"FanTalk$Script", "isNumberBelow", "(I)Z"⟩ ∈ UW := um0 (⟨"FanTalk$Script", "isNumberBelow", "(I)Z"⟩, 9) (List.mem_of_getElem? (i := 10) rfl) rfl
theorem us_11 : Cond.selects "FanTalk$Script" ⟨"FanTalk$Script", "isDraughtItem", "()Z"⟩ ⟨"FanTalk$Script", "isDraughtItem", "()Z"⟩ ∈ UW := um0 (⟨"FanTalk$Script", "isDraughtItem", "()Z"⟩, 9) (List.mem_of_getElem? (i := 11) rfl) rfl
theorem us_12 : Cond.selects "FanTalk" ⟨"FanTalk", "drawSaying", "()V"⟩ ⟨"FanTalk", "drawSaying", "()V"⟩ ∈ UW := um0 (⟨"FanTalk", "drawSaying", "()V"⟩, 11) (List.mem_of_getElem? (i := 12) rfl) rfl
theorem us_13 : Cond.selects "FanTalk" ⟨"FanTalk", "readSaying", "(II)LFanTalk$Friend;"⟩ ⟨"FanTalk", "readSaying", "(II)LFanTalk$Friend;"⟩ ∈ UW := um0 (⟨"FanTalk", "readSaying", "(II)LFanTalk$Friend;"⟩, 11) (List.mem_of_getElem? (i := 13) rfl) rfl
theorem us_14 : Cond.selects "FanTalk$Friend" ⟨"FanTalk$Friend", "choice", "(II)I"⟩ ⟨"FanTalk$Friend", "choice", "(II)I"⟩ ∈ UW := um0 (⟨"FanTalk$Friend", "choice", "(II)I"⟩, 9) (List.mem_of_getElem? (i := 14) rfl) rfl
theorem us_15 : Cond.selects "FanTalk$Friend" ⟨"FanTalk$Friend", "shows", "(II)Z"⟩ ⟨"FanTalk$Friend", "shows", "(II)Z"⟩ ∈ UW := um0 (⟨"FanTalk$Friend", "shows", "(II)Z"⟩, 9) (List.mem_of_getElem? (i := 15) rfl) rfl
theorem us_16 : Cond.selects "FanTalk$Past" ⟨"FanTalk$Past", "letTheOldestGo", "()V"⟩ ⟨"FanTalk$Past", "letTheOldestGo", "()V"⟩ ∈ UW := um0 (⟨"FanTalk$Past", "letTheOldestGo", "()V"⟩, 2) (List.mem_of_getElem? (i := 16) rfl) rfl
theorem us_17 : Cond.selects "FanTalk" ⟨"FanTalk", "findHiding", "(II)Z"⟩ ⟨"FanTalk", "findHiding", "(II)Z"⟩ ∈ UW := um0 (⟨"FanTalk", "findHiding", "(II)Z"⟩, 11) (List.mem_of_getElem? (i := 17) rfl) rfl
theorem us_18 : Cond.selects "FanTalk$Walk" ⟨"FanTalk$Walk", "closeBehind", "(I)V"⟩ ⟨"FanTalk$Walk", "closeBehind", "(I)V"⟩ ∈ UW := um0 (⟨"FanTalk$Walk", "closeBehind", "(I)V"⟩, 2) (List.mem_of_getElem? (i := 18) rfl) rfl
theorem us_19 : Cond.selects "FanTalk" ⟨"FanTalk", "wrongToHide", "(I)I"⟩ ⟨"FanTalk", "wrongToHide", "(I)I"⟩ ∈ UW := um0 (⟨"FanTalk", "wrongToHide", "(I)I"⟩, 11) (List.mem_of_getElem? (i := 19) rfl) rfl
theorem us_20 : Cond.selects "FanTalk$Walk" ⟨"FanTalk$Walk", "greatest", "(I)I"⟩ ⟨"FanTalk$Walk", "greatest", "(I)I"⟩ ∈ UW := um0 (⟨"FanTalk$Walk", "greatest", "(I)I"⟩, 2) (List.mem_of_getElem? (i := 20) rfl) rfl
theorem us_21 : Cond.selects "FanTalk" ⟨"FanTalk", "findSaving", "(II)Z"⟩ ⟨"FanTalk", "findSaving", "(II)Z"⟩ ∈ UW := um0 (⟨"FanTalk", "findSaving", "(II)Z"⟩, 11) (List.mem_of_getElem? (i := 21) rfl) rfl
theorem us_22 : Cond.selects "FanTalk" ⟨"FanTalk", "wrongToSave", "(II)I"⟩ ⟨"FanTalk", "wrongToSave", "(II)I"⟩ ∈ UW := um0 (⟨"FanTalk", "wrongToSave", "(II)I"⟩, 11) (List.mem_of_getElem? (i := 22) rfl) rfl
theorem us_23 : Cond.selects "FanTalk" ⟨"FanTalk", "isSafe", "(II)Z"⟩ ⟨"FanTalk", "isSafe", "(II)Z"⟩ ∈ UW := um0 (⟨"FanTalk", "isSafe", "(II)Z"⟩, 11) (List.mem_of_getElem? (i := 23) rfl) rfl
theorem us_24 : Cond.selects "FanTalk" ⟨"FanTalk", "bearsFacts", "(I)Z"⟩ ⟨"FanTalk", "bearsFacts", "(I)Z"⟩ ∈ UW := um0 (⟨"FanTalk", "bearsFacts", "(I)Z"⟩, 11) (List.mem_of_getElem? (i := 24) rfl) rfl
theorem us_25 : Cond.selects "FanTalk" ⟨"FanTalk", "howMany", "(I)I"⟩ ⟨"FanTalk", "howMany", "(I)I"⟩ ∈ UW := um0 (⟨"FanTalk", "howMany", "(I)I"⟩, 11) (List.mem_of_getElem? (i := 25) rfl) rfl
theorem us_26 : Cond.selects "FanTalkModel" ⟨"FanTalkModel", "get", "(I)I"⟩ ⟨"FanTalkModel", "get", "(I)I"⟩ ∈ UW := um0 (⟨"FanTalkModel", "get", "(I)I"⟩, 17) (List.mem_of_getElem? (i := 26) rfl) rfl
theorem us_27 : Cond.selects "FanTalkModel" ⟨"FanTalkModel", "full", "()I"⟩ ⟨"FanTalkModel", "full", "()I"⟩ ∈ UW := um0 (⟨"FanTalkModel", "full", "()I"⟩, 17) (List.mem_of_getElem? (i := 27) rfl) rfl
theorem us_28 : Cond.selects "FanTalkModel" ⟨"FanTalkModel", "set", "(II)V"⟩ ⟨"FanTalkModel", "set", "(II)V"⟩ ∈ UW := um0 (⟨"FanTalkModel", "set", "(II)V"⟩, 17) (List.mem_of_getElem? (i := 28) rfl) rfl
theorem us_29 : Cond.selects "FanTalkModel" ⟨"FanTalkModel", "isCode", "(I)Z"⟩ ⟨"FanTalkModel", "isCode", "(I)Z"⟩ ∈ UW := um0 (⟨"FanTalkModel", "isCode", "(I)Z"⟩, 17) (List.mem_of_getElem? (i := 29) rfl) rfl
theorem us_30 : Cond.selects "FanTalkModel" ⟨"FanTalkModel", "bad", "()I"⟩ ⟨"FanTalkModel", "bad", "()I"⟩ ∈ UW := um0 (⟨"FanTalkModel", "bad", "()I"⟩, 17) (List.mem_of_getElem? (i := 30) rfl) rfl
theorem us_31 : Cond.selects "FanTalkModel" ⟨"FanTalkModel", "hasRow", "(II)Z"⟩ ⟨"FanTalkModel", "hasRow", "(II)Z"⟩ ∈ UW := um0 (⟨"FanTalkModel", "hasRow", "(II)Z"⟩, 17) (List.mem_of_getElem? (i := 31) rfl) rfl
theorem us_32 : Cond.selects "FanTalkModel" ⟨"FanTalkModel", "entriesOf", "(I)I"⟩ ⟨"FanTalkModel", "entriesOf", "(I)I"⟩ ∈ UW := um0 (⟨"FanTalkModel", "entriesOf", "(I)I"⟩, 17) (List.mem_of_getElem? (i := 32) rfl) rfl
theorem us_33 : Cond.selects "FanTalkModel" ⟨"FanTalkModel", "rowOf", "(II)I"⟩ ⟨"FanTalkModel", "rowOf", "(II)I"⟩ ∈ UW := um0 (⟨"FanTalkModel", "rowOf", "(II)I"⟩, 17) (List.mem_of_getElem? (i := 33) rfl) rfl
theorem us_34 : Cond.selects "FanTalkModel" ⟨"FanTalkModel", "no", "()I"⟩ ⟨"FanTalkModel", "no", "()I"⟩ ∈ UW := um0 (⟨"FanTalkModel", "no", "()I"⟩, 17) (List.mem_of_getElem? (i := 34) rfl) rfl
theorem us_35 : Cond.selects "FanTalkModel" ⟨"FanTalkModel", "addEntry", "(III)V"⟩ ⟨"FanTalkModel", "addEntry", "(III)V"⟩ ∈ UW := um0 (⟨"FanTalkModel", "addEntry", "(III)V"⟩, 17) (List.mem_of_getElem? (i := 35) rfl) rfl
theorem us_36 : Cond.selects "FanTalkModel" ⟨"FanTalkModel", "wordOf", "(II)I"⟩ ⟨"FanTalkModel", "wordOf", "(II)I"⟩ ∈ UW := um0 (⟨"FanTalkModel", "wordOf", "(II)I"⟩, 17) (List.mem_of_getElem? (i := 36) rfl) rfl
theorem us_37 : Cond.selects "FanTalkModel" ⟨"FanTalkModel", "copy", "(II)V"⟩ ⟨"FanTalkModel", "copy", "(II)V"⟩ ∈ UW := um0 (⟨"FanTalkModel", "copy", "(II)V"⟩, 17) (List.mem_of_getElem? (i := 37) rfl) rfl
theorem us_38 : Cond.selects "FanTalkModel" ⟨"FanTalkModel", "next", "()V"⟩ ⟨"FanTalkModel", "next", "()V"⟩ ∈ UW := um0 (⟨"FanTalkModel", "next", "()V"⟩, 17) (List.mem_of_getElem? (i := 38) rfl) rfl
theorem us_39 : Cond.selects "FanTalkModel" ⟨"FanTalkModel", "here", "()I"⟩ ⟨"FanTalkModel", "here", "()I"⟩ ∈ UW := um0 (⟨"FanTalkModel", "here", "()I"⟩, 17) (List.mem_of_getElem? (i := 39) rfl) rfl
theorem us_40 : Cond.selects "FanTalkModel" ⟨"FanTalkModel", "readItem", "()V"⟩ ⟨"FanTalkModel", "readItem", "()V"⟩ ∈ UW := um0 (⟨"FanTalkModel", "readItem", "()V"⟩, 17) (List.mem_of_getElem? (i := 40) rfl) rfl
theorem us_41 : Cond.selects "FanTalkModel" ⟨"FanTalkModel", "due", "(Z)I"⟩ ⟨"FanTalkModel", "due", "(Z)I"⟩ ∈ UW := um0 (⟨"FanTalkModel", "due", "(Z)I"⟩, 17) (List.mem_of_getElem? (i := 41) rfl) rfl
theorem us_42 : Cond.selects "FanTalkModel" ⟨"FanTalkModel", "readEntry", "()V"⟩ ⟨"FanTalkModel", "readEntry", "()V"⟩ ∈ UW := um0 (⟨"FanTalkModel", "readEntry", "()V"⟩, 17) (List.mem_of_getElem? (i := 42) rfl) rfl
theorem us_43 : Cond.selects "FanTalkModel" ⟨"FanTalkModel", "isNumber", "(II)Z"⟩ ⟨"FanTalkModel", "isNumber", "(II)Z"⟩ ∈ UW := um0 (⟨"FanTalkModel", "isNumber", "(II)Z"⟩, 17) (List.mem_of_getElem? (i := 43) rfl) rfl
theorem us_44 : Cond.selects "FanTalkModel" ⟨"FanTalkModel", "make", "(I)V"⟩ ⟨"FanTalkModel", "make", "(I)V"⟩ ∈ UW := um0 (⟨"FanTalkModel", "make", "(I)V"⟩, 17) (List.mem_of_getElem? (i := 44) rfl) rfl
theorem us_45 : Cond.selects "FanTalkModel" ⟨"FanTalkModel", "readSaying", "(II)V"⟩ ⟨"FanTalkModel", "readSaying", "(II)V"⟩ ∈ UW := um0 (⟨"FanTalkModel", "readSaying", "(II)V"⟩, 17) (List.mem_of_getElem? (i := 45) rfl) rfl
theorem us_46 : Cond.selects "FanTalkModel" ⟨"FanTalkModel", "readBy", "(III)V"⟩ ⟨"FanTalkModel", "readBy", "(III)V"⟩ ∈ UW := um0 (⟨"FanTalkModel", "readBy", "(III)V"⟩, 17) (List.mem_of_getElem? (i := 46) rfl) rfl
theorem us_47 : Cond.selects "FanTalkModel" ⟨"FanTalkModel", "fits", "(III)Z"⟩ ⟨"FanTalkModel", "fits", "(III)Z"⟩ ∈ UW := um0 (⟨"FanTalkModel", "fits", "(III)Z"⟩, 17) (List.mem_of_getElem? (i := 47) rfl) rfl
theorem us_48 : Cond.selects "FanTalkModel" ⟨"FanTalkModel", "know", "()V"⟩ ⟨"FanTalkModel", "know", "()V"⟩ ∈ UW := um0 (⟨"FanTalkModel", "know", "()V"⟩, 17) (List.mem_of_getElem? (i := 48) rfl) rfl
theorem us_49 : Cond.selects "FanTalkModel" ⟨"FanTalkModel", "makeLeast", "(I)V"⟩ ⟨"FanTalkModel", "makeLeast", "(I)V"⟩ ∈ UW := um0 (⟨"FanTalkModel", "makeLeast", "(I)V"⟩, 17) (List.mem_of_getElem? (i := 49) rfl) rfl
theorem us_50 : Cond.selects "FanTalkModel" ⟨"FanTalkModel", "readsWant", "()Z"⟩ ⟨"FanTalkModel", "readsWant", "()Z"⟩ ∈ UW := um0 (⟨"FanTalkModel", "readsWant", "()Z"⟩, 17) (List.mem_of_getElem? (i := 50) rfl) rfl
theorem us_51 : Cond.selects "FanTalkModel" ⟨"FanTalkModel", "madeRow", "()I"⟩ ⟨"FanTalkModel", "madeRow", "()I"⟩ ∈ UW := um0 (⟨"FanTalkModel", "madeRow", "()I"⟩, 17) (List.mem_of_getElem? (i := 51) rfl) rfl
theorem us_52 : Cond.selects "FanTalkModel" ⟨"FanTalkModel", "goOn", "(I)Z"⟩ ⟨"FanTalkModel", "goOn", "(I)Z"⟩ ∈ UW := um0 (⟨"FanTalkModel", "goOn", "(I)Z"⟩, 17) (List.mem_of_getElem? (i := 52) rfl) rfl
theorem us_53 : Cond.selects "FanTalkModel" ⟨"FanTalkModel", "apart", "(I)I"⟩ ⟨"FanTalkModel", "apart", "(I)I"⟩ ∈ UW := um0 (⟨"FanTalkModel", "apart", "(I)I"⟩, 17) (List.mem_of_getElem? (i := 53) rfl) rfl
theorem us_54 : Cond.selects "FanTalkModel" ⟨"FanTalkModel", "hasRead", "(I)Z"⟩ ⟨"FanTalkModel", "hasRead", "(I)Z"⟩ ∈ UW := um0 (⟨"FanTalkModel", "hasRead", "(I)Z"⟩, 17) (List.mem_of_getElem? (i := 54) rfl) rfl
theorem us_55 : Cond.selects "FanTalkModel" ⟨"FanTalkModel", "counted", "(I)I"⟩ ⟨"FanTalkModel", "counted", "(I)I"⟩ ∈ UW := um0 (⟨"FanTalkModel", "counted", "(I)I"⟩, 17) (List.mem_of_getElem? (i := 55) rfl) rfl
theorem us_56 : Cond.selects "FanTalkModel" ⟨"FanTalkModel", "allEntries", "()I"⟩ ⟨"FanTalkModel", "allEntries", "()I"⟩ ∈ UW := um0 (⟨"FanTalkModel", "allEntries", "()I"⟩, 17) (List.mem_of_getElem? (i := 56) rfl) rfl
theorem uz_0 : Cond.selects "FanTalk$Aunt" ⟨"FanTalk$Friend", "choice", "(II)I"⟩ ⟨"FanTalk$Friend", "choice", "(II)I"⟩ ∈ UW := umz 0 rfl rfl
theorem uz_1 : Cond.selects "FanTalk$Chaperone" ⟨"FanTalk$Friend", "choice", "(II)I"⟩ ⟨"FanTalk$Friend", "choice", "(II)I"⟩ ∈ UW := umz 1 rfl rfl
theorem uz_2 : Cond.selects "FanTalk$Hasty" ⟨"FanTalk$Friend", "choice", "(II)I"⟩ ⟨"FanTalk$Friend", "choice", "(II)I"⟩ ∈ UW := umz 2 rfl rfl
theorem uz_3 : Cond.selects "FanTalk$Mirror" ⟨"FanTalk$Friend", "choice", "(II)I"⟩ ⟨"FanTalk$Friend", "choice", "(II)I"⟩ ∈ UW := umz 3 rfl rfl
theorem uz_4 : Cond.selects "FanTalk$Aunt" ⟨"FanTalk$Friend", "shows", "(II)Z"⟩ ⟨"FanTalk$Friend", "shows", "(II)Z"⟩ ∈ UW := umz 4 rfl rfl
theorem uz_5 : Cond.selects "FanTalk$Chaperone" ⟨"FanTalk$Friend", "shows", "(II)Z"⟩ ⟨"FanTalk$Friend", "shows", "(II)Z"⟩ ∈ UW := umz 5 rfl rfl
theorem uz_6 : Cond.selects "FanTalk$Hasty" ⟨"FanTalk$Friend", "shows", "(II)Z"⟩ ⟨"FanTalk$Friend", "shows", "(II)Z"⟩ ∈ UW := umz 6 rfl rfl
theorem uz_7 : Cond.selects "FanTalk$Mirror" ⟨"FanTalk$Friend", "shows", "(II)Z"⟩ ⟨"FanTalk$Friend", "shows", "(II)Z"⟩ ∈ UW := umz 7 rfl rfl
theorem tm1 {w : Cond} (j : Nat) (h : tables_1_1[j]? = some w) : w ∈ tables_1 := List.mem_append_left _ (List.mem_of_getElem? h)
theorem tm2 {w : Cond} (j : Nat) (h : tables_1_2[j]? = some w) : w ∈ tables_1 := List.mem_append_right _ (List.mem_append_left _ (List.mem_of_getElem? h))
theorem tm3 {w : Cond} (j : Nat) (h : tables_1_3[j]? = some w) : w ∈ tables_1 := List.mem_append_right _ (List.mem_append_right _ (List.mem_append_left _ (List.mem_of_getElem? h)))
theorem tm4 {w : Cond} (j : Nat) (h : tables_1_4[j]? = some w) : w ∈ tables_1 := List.mem_append_right _ (List.mem_append_right _ (List.mem_append_right _ (List.mem_append_left _ (List.mem_of_getElem? h))))
theorem tm5 {w : Cond} (j : Nat) (h : tables_1_5[j]? = some w) : w ∈ tables_1 := List.mem_append_right _ (List.mem_append_right _ (List.mem_append_right _ (List.mem_append_right _ (List.mem_of_getElem? h))))
theorem z_tbl_ok {args : Array Value} {s : State} (h : ∀ w ∈ lw_tbl, w.before args s = true) : ∀ w ∈ z_tbl, w.before args s = true := by
  have hts : ∀ w ∈ tables_1, w.before args s = true := fun w hw => h w (List.mem_append_right _ hw)
  intro w hw
  rcases List.mem_append.mp hw with hw | hw
  · obtain ⟨q, hq, rfl⟩ := List.mem_map.mp hw
    simp only [z_sub, List.mem_cons, List.not_mem_nil, or_false] at hq
    rcases hq with rfl | rfl | rfl | rfl | rfl | rfl | rfl | rfl
    · exact z_sel (y := ⟨"FanTalk$Friend", "choice", "(II)I"⟩) (C := "FanTalk$Aunt") (n := 9) (n2 := 9) ⟨by decide, by decide⟩ (hts _ (tm2 15 rfl)) (hts _ (tm1 169 rfl)) (hts _ (tm3 88 rfl)) (hts _ (tm3 89 rfl))
    · exact z_sel (y := ⟨"FanTalk$Friend", "choice", "(II)I"⟩) (C := "FanTalk$Chaperone") (n := 9) (n2 := 9) ⟨by decide, by decide⟩ (hts _ (tm1 223 rfl)) (hts _ (tm1 169 rfl)) (hts _ (tm3 88 rfl)) (hts _ (tm3 89 rfl))
    · exact z_sel (y := ⟨"FanTalk$Friend", "choice", "(II)I"⟩) (C := "FanTalk$Hasty") (n := 9) (n2 := 9) ⟨by decide, by decide⟩ (hts _ (tm1 207 rfl)) (hts _ (tm1 169 rfl)) (hts _ (tm3 88 rfl)) (hts _ (tm3 89 rfl))
    · exact z_sel (y := ⟨"FanTalk$Friend", "choice", "(II)I"⟩) (C := "FanTalk$Mirror") (n := 9) (n2 := 9) ⟨by decide, by decide⟩ (hts _ (tm1 239 rfl)) (hts _ (tm1 169 rfl)) (hts _ (tm3 88 rfl)) (hts _ (tm3 89 rfl))
    · exact z_sel (y := ⟨"FanTalk$Friend", "shows", "(II)Z"⟩) (C := "FanTalk$Aunt") (n := 9) (n2 := 9) ⟨by decide, by decide⟩ (hts _ (tm2 15 rfl)) (hts _ (tm1 169 rfl)) (hts _ (tm3 92 rfl)) (hts _ (tm3 93 rfl))
    · exact z_sel (y := ⟨"FanTalk$Friend", "shows", "(II)Z"⟩) (C := "FanTalk$Chaperone") (n := 9) (n2 := 9) ⟨by decide, by decide⟩ (hts _ (tm1 223 rfl)) (hts _ (tm1 169 rfl)) (hts _ (tm3 92 rfl)) (hts _ (tm3 93 rfl))
    · exact z_sel (y := ⟨"FanTalk$Friend", "shows", "(II)Z"⟩) (C := "FanTalk$Hasty") (n := 9) (n2 := 9) ⟨by decide, by decide⟩ (hts _ (tm1 207 rfl)) (hts _ (tm1 169 rfl)) (hts _ (tm3 92 rfl)) (hts _ (tm3 93 rfl))
    · exact z_sel (y := ⟨"FanTalk$Friend", "shows", "(II)Z"⟩) (C := "FanTalk$Mirror") (n := 9) (n2 := 9) ⟨by decide, by decide⟩ (hts _ (tm1 239 rfl)) (hts _ (tm1 169 rfl)) (hts _ (tm3 92 rfl)) (hts _ (tm3 93 rfl))
  · exact h w hw
theorem uw_X0 : ∀ w ∈ u_ws RX0 TX0 9, w ∈ UW := by decide +kernel
theorem uw_X1 : ∀ w ∈ u_ws RX1 TX1 9, w ∈ UW := by decide +kernel
theorem uw_X2 : ∀ w ∈ u_ws RX2 TX2 5, w ∈ UW := by decide +kernel
theorem uw_X3 : ∀ w ∈ u_ws RX3 TX3 9, w ∈ UW := by decide +kernel
theorem uw_X4 : ∀ w ∈ u_ws RX4 TX4 9, w ∈ UW := by decide +kernel
theorem uw_X5 : ∀ w ∈ u_ws RX5 TX5 9, w ∈ UW := by decide +kernel
theorem uw_X6 : ∀ w ∈ u_ws RX6 TX6 2, w ∈ UW := by decide +kernel
theorem uw_X8 : ∀ w ∈ u_ws RX8 TX8 9, w ∈ UW := by decide +kernel
theorem uw_X9 : ∀ w ∈ u_ws RX9 TX9 10, w ∈ UW := by decide +kernel
theorem uw_X10 : ∀ w ∈ u_ws RX10 TX10 2, w ∈ UW := by decide +kernel
theorem uw_X11 : ∀ w ∈ u_ws RX11 TX11 11, w ∈ UW := by decide +kernel
theorem uw_X12 : ∀ w ∈ u_ws RX12 TX12 17, w ∈ UW := by decide +kernel
