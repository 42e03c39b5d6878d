-- 95: the tables of part 02 say what the class files and the tables' words say: checked by the kernel, row by row
def mCode (M : Nat) : ByteArray := match MT[M]? with | some r => r.2.1 | none => ⟨#[]⟩
def lenOK (ins : Instr) (n : Nat) : Bool := match ins with
  | .tableswitch .. => true
  | .lookupswitch .. => true
  | .iload _ => decide (n = 2)
  | .lload _ => decide (n = 2)
  | .aload _ => decide (n = 2)
  | .istore _ => decide (n = 2)
  | .astore _ => decide (n = 2)
  | .bipush _ => decide (n = 2)
  | .ldc _ => decide (n = 2)
  | .newarray _ => decide (n = 2)
  | .sipush _ => decide (n = 3)
  | .ldc_w _ => decide (n = 3)
  | .ldc2_w _ => decide (n = 3)
  | .iinc _ _ => decide (n = 3)
  | .getfield _ => decide (n = 3)
  | .putfield _ => decide (n = 3)
  | .getstatic _ => decide (n = 3)
  | .new _ => decide (n = 3)
  | .anewarray _ => decide (n = 3)
  | .invokevirtual _ => decide (n = 3)
  | .invokespecial _ => decide (n = 3)
  | .invokestatic _ => decide (n = 3)
  | .goto _ => decide (n = 3)
  | .ifCond _ _ => decide (n = 3)
  | .if_icmp _ _ => decide (n = 3)
  | .ifnull _ => decide (n = 3)
  | .ifnonnull _ => decide (n = 3)
  | _ => decide (n = 1)
/-- the text constants: the class's entry, the base cell -/
def ldcL : List (Nat × Nat) := [(57, 3), (59, 4), (61, 5), (91, 6), (97, 7), (99, 8)]
/-- a callee's own words -/
def calOK (ins : Instr) (a e : Nat) : Bool := match MT[a]? with
  | some (y, cc, nl, rt, p1, p2, p3, p4) =>
    word p1 (.code y cc nl rt) && word p4 (.initialized y.cls) && decide (nl ≤ 40) && plainName y.cls && decide (y.cls ≠ "java/lang/invoke/MethodHandle" ∧ y.cls ≠ "java/lang/invoke/VarHandle") && decide ((parseMethodDescriptor y.desc).map (fun q => q.parameters.length) = some e) &&
    (match ins with
      | .invokestatic _ => word p2 (.static y)
      | .invokespecial _ => word p2 (.instanceMethod y) && decide (y.name = "<init>") && decide (rt = none)
      | _ => word p2 (.instanceMethod y) && word p3 (.selects y.cls y y))
  | none => false
def lnk (M pc : Nat) (ins : Instr) (a b c e : Nat) (v : Int) : Bool :=
  let own := (mName M).cls
  match ins with
  | .istore k => decide (k < mLoc M)
  | .istore_n k => decide ((k : Nat) < mLoc M)
  | .astore k => decide (k < mLoc M)
  | .astore_n k => decide ((k : Nat) < mLoc M)
  | .iinc k _ => decide (k < mLoc M)
  | .goto off => offOK pc off
  | .ifCond _ off => offOK pc off
  | .if_icmp _ off => offOK pc off
  | .ifnull off => offOK pc off
  | .ifnonnull off => offOK pc off
  | .tableswitch dflt lo hi offs => offOK pc dflt && offs.toList.all (offOK pc) && decide (hi + 1 = lo + offs.toList.length) && decide (-2 ^ 31 ≤ lo) && decide (hi < 2 ^ 31)
  | .lookupswitch dflt ps => offOK pc dflt && ps.toList.all (fun q => offOK pc q.2 && decide (-2 ^ 31 ≤ q.1) && decide (q.1 < 2 ^ 31)) && (ps.toList.zip (ps.toList.drop 1)).all (fun (q, next) => q.1 < next.1)
  | .ldc i => decide ((i, a) ∈ ldcL) && decide (own = "MilestoneMaids$WayReader")
  | .ldc_w i => word c (.constant own i (Int32.ofInt v))
  | .ldc2_w i => word c (.constantLong own i (Int64.ofInt v))
  | .getfield i =>
    if a = 50 then (if b = 0 then word c (.fieldLink own i "java/lang/String" "value" "[B") else word c (.fieldLink own i "java/lang/String" "coder" "B"))
    else match vwCl[a]? with
      | some (C, T, N) => decide (b < N) && word c (.fieldLink own i C (T b).2.1 (T b).2.2.1) && decide ((T b).1 = C) && decide (e = fk a b)
      | none => false
  | .putfield i => match vwCl[a]? with
      | some (C, T, N) => decide (b < N) && word c (.fieldLink own i C (T b).2.1 (T b).2.2.1) && decide ((T b).1 = C) && decide (e = fk a b) && (if (T b).2.2.2 = true then decide (own = C) && decide ((mName M).name = "<init>") else true)
      | none => false
  | .new i => match vwCl[a]? with
      | some (C, _, N) => word c (.classLink own i C) && word b (.instantiable C N) && word e (.initialized C)
      | none => false
  | .newarray t => decide ((t = .int ∧ a = 20) ∨ (t = .long ∧ a = 21) ∨ (t = .boolean ∧ a = 22)) && word c (.arrayClass (newarray.typeOf t))
  | .anewarray i => word c (.classLink own i "MilestoneMaids$Tape")
  | .getstatic i =>
    if a = 21 then word c (.fieldLink own i "java/lang/String" "COMPACT_STRINGS" "Z")
    else if a = 20 then word c (.fieldLink own i "jdk/internal/util/Preconditions" "SIOOBE_FORMATTER" "Ljava/util/function/BiFunction;")
    else if a = 1 then (if b = 0 then word c (.fieldLink own i "MilestoneMaids" "KIND_ABOVE" "[I") else word c (.fieldLinkNest own i "MilestoneMaids" "KIND_ABOVE" "[I" "MilestoneMaids"))
    else decide (a = 2) && (if b = 0 then word c (.fieldLink own i "MilestoneMaids" "BODIES" "[I") else word c (.fieldLinkNest own i "MilestoneMaids" "BODIES" "[I" "MilestoneMaids"))
  | .invokevirtual i => calOK ins a e && decide (b = 0) && word c (.methodLink own i (mName a))
  | .invokespecial i =>
    if a = 1001 then word c (.methodLink own i Lib.objectInit)
    else calOK ins a e && (if b = 0 then word c (.methodLink own i (mName a)) else word c (.methodLinkNest own i (mName a) "MilestoneMaids"))
  | .invokestatic i =>
    if a = 1002 then word c (.methodLink own i Lib.Math.min.name)
    else if a = 1000 then word c (.methodLink own i arraycopyName)
    else calOK ins a e && decide (b = 0) && word c (.methodLink own i (mName a))
  | .areturn => (match mRet M with | some (.object _) => true | some (.array _) => true | _ => false)
  | .lreturn => decide (mRet M = some .long)
  | .return_ => decide (mRet M = none)
  | _ => true
def chkI (M pc : Nat) : AI → Bool
  | (ins, a, b, c, e, v) => (match decode (mCode M) pc with | .ok (i2, n) => decide (i2 = ins) && lenOK ins n | _ => false) && lnk M pc ins a b c e v
def chkM (M : Nat) (l : List (Nat × AI)) : Bool := l.all fun r => chkI M r.1 r.2
theorem chkM_app {M : Nat} {a b : List (Nat × AI)} (h1 : chkM M a = true) (h2 : chkM M b = true) : chkM M (a ++ b) = true := by
  unfold chkM at *
  rw [List.all_append, h1, h2]
  rfl
theorem ok_0 : chkM 0 ct_0 = true := by decide +kernel
theorem ok_1 : chkM 1 ct_1 = true := by decide +kernel
theorem ok_2 : chkM 2 ct_2 = true := by decide +kernel
theorem ok_3 : chkM 3 ct_3 = true := by decide +kernel
theorem ok_4 : chkM 4 ct_4 = true := by decide +kernel
theorem ok_5 : chkM 5 ct_5 = true := by decide +kernel
theorem ok_6_0 : chkM 6 ct_6_0 = true := by decide +kernel
theorem ok_6_1 : chkM 6 ct_6_1 = true := by decide +kernel
theorem ok_6_2 : chkM 6 ct_6_2 = true := by decide +kernel
theorem ok_6 : chkM 6 ct_6 = true := chkM_app ok_6_0 (chkM_app ok_6_1 (ok_6_2))
theorem ok_7 : chkM 7 ct_7 = true := by decide +kernel
theorem ok_8 : chkM 8 ct_8 = true := by decide +kernel
theorem ok_9 : chkM 9 ct_9 = true := by decide +kernel
theorem ok_10 : chkM 10 ct_10 = true := by decide +kernel
theorem ok_11 : chkM 11 ct_11 = true := by decide +kernel
theorem ok_12 : chkM 12 ct_12 = true := by decide +kernel
theorem ok_13 : chkM 13 ct_13 = true := by decide +kernel
theorem ok_14 : chkM 14 ct_14 = true := by decide +kernel
theorem ok_15 : chkM 15 ct_15 = true := by decide +kernel
theorem ok_16 : chkM 16 ct_16 = true := by decide +kernel
theorem ok_17 : chkM 17 ct_17 = true := by decide +kernel
theorem ok_18_0 : chkM 18 ct_18_0 = true := by decide +kernel
theorem ok_18_1 : chkM 18 ct_18_1 = true := by decide +kernel
theorem ok_18 : chkM 18 ct_18 = true := chkM_app ok_18_0 (ok_18_1)
theorem ok_19 : chkM 19 ct_19 = true := by decide +kernel
theorem ok_20 : chkM 20 ct_20 = true := by decide +kernel
theorem ok_21 : chkM 21 ct_21 = true := by decide +kernel
theorem ok_22 : chkM 22 ct_22 = true := by decide +kernel
theorem ok_23 : chkM 23 ct_23 = true := by decide +kernel
theorem ok_24 : chkM 24 ct_24 = true := by decide +kernel
theorem ok_25 : chkM 25 ct_25 = true := by decide +kernel
theorem ok_26 : chkM 26 ct_26 = true := by decide +kernel
theorem ok_27 : chkM 27 ct_27 = true := by decide +kernel
theorem ok_28 : chkM 28 ct_28 = true := by decide +kernel
theorem ok_29 : chkM 29 ct_29 = true := by decide +kernel
theorem ok_30 : chkM 30 ct_30 = true := by decide +kernel
theorem ok_31 : chkM 31 ct_31 = true := by decide +kernel
theorem ok_32 : chkM 32 ct_32 = true := by decide +kernel
theorem ok_33 : chkM 33 ct_33 = true := by decide +kernel
theorem ok_34 : chkM 34 ct_34 = true := by decide +kernel
theorem ok_35 : chkM 35 ct_35 = true := by decide +kernel
theorem ok_36 : chkM 36 ct_36 = true := by decide +kernel
theorem ok_37 : chkM 37 ct_37 = true := by decide +kernel
theorem ok_38 : chkM 38 ct_38 = true := by decide +kernel
theorem ok_39 : chkM 39 ct_39 = true := by decide +kernel
theorem ok_40 : chkM 40 ct_40 = true := by decide +kernel
theorem ok_41 : chkM 41 ct_41 = true := by decide +kernel
theorem ok_42 : chkM 42 ct_42 = true := by decide +kernel
theorem ok_43 : chkM 43 ct_43 = true := by decide +kernel
theorem ok_44 : chkM 44 ct_44 = true := by decide +kernel
theorem ok_45 : chkM 45 ct_45 = true := by decide +kernel
theorem ok_46 : chkM 46 ct_46 = true := by decide +kernel
theorem ok_47 : chkM 47 ct_47 = true := by decide +kernel
theorem ok_48 : chkM 48 ct_48 = true := by decide +kernel
theorem ok_49 : chkM 49 ct_49 = true := by decide +kernel
theorem ok_50_0 : chkM 50 ct_50_0 = true := by decide +kernel
theorem ok_50_1 : chkM 50 ct_50_1 = true := by decide +kernel
theorem ok_50_2 : chkM 50 ct_50_2 = true := by decide +kernel
theorem ok_50 : chkM 50 ct_50 = true := chkM_app ok_50_0 (chkM_app ok_50_1 (ok_50_2))
theorem ok_51 : chkM 51 ct_51 = true := by decide +kernel
theorem ok_52 : chkM 52 ct_52 = true := by decide +kernel
theorem ok_53 : chkM 53 ct_53 = true := by decide +kernel
theorem ok_54 : chkM 54 ct_54 = true := by decide +kernel
theorem ok_55 : chkM 55 ct_55 = true := by decide +kernel
theorem ok_56 : chkM 56 ct_56 = true := by decide +kernel
theorem ok_57 : chkM 57 ct_57 = true := by decide +kernel
theorem ok_58 : chkM 58 ct_58 = true := by decide +kernel
theorem ok_59 : chkM 59 ct_59 = true := by decide +kernel
theorem ok_60 : chkM 60 ct_60 = true := by decide +kernel
theorem ok_61 : chkM 61 ct_61 = true := by decide +kernel
theorem ok_62 : chkM 62 ct_62 = true := by decide +kernel
theorem ok_63 : chkM 63 ct_63 = true := by decide +kernel
theorem ok_64 : chkM 64 ct_64 = true := by decide +kernel
theorem ok_65 : chkM 65 ct_65 = true := by decide +kernel
theorem ok_66 : chkM 66 ct_66 = true := by decide +kernel
theorem ok_67 : chkM 67 ct_67 = true := by decide +kernel
theorem ok_68 : chkM 68 ct_68 = true := by decide +kernel
theorem ok_69 : chkM 69 ct_69 = true := by decide +kernel
theorem ok_70 : chkM 70 ct_70 = true := by decide +kernel
theorem ok_71 : chkM 71 ct_71 = true := by decide +kernel
theorem ok_72 : chkM 72 ct_72 = true := by decide +kernel
theorem ok_73 : chkM 73 ct_73 = true := by decide +kernel
theorem ok_74 : chkM 74 ct_74 = true := by decide +kernel
theorem ok_75 : chkM 75 ct_75 = true := by decide +kernel
theorem ok_76 : chkM 76 ct_76 = true := by decide +kernel
theorem ok_77 : chkM 77 ct_77 = true := by decide +kernel
theorem ok_78 : chkM 78 ct_78 = true := by decide +kernel
theorem ok_79 : chkM 79 ct_79 = true := by decide +kernel
theorem ok_80 : chkM 80 ct_80 = true := by decide +kernel
theorem ok_81 : chkM 81 ct_81 = true := by decide +kernel
theorem ok_82 : chkM 82 ct_82 = true := by decide +kernel
theorem ok_83 : chkM 83 ct_83 = true := by decide +kernel
theorem ok_84_0 : chkM 84 ct_84_0 = true := by decide +kernel
theorem ok_84_1 : chkM 84 ct_84_1 = true := by decide +kernel
theorem ok_84 : chkM 84 ct_84 = true := chkM_app ok_84_0 (ok_84_1)
theorem ok_85 : chkM 85 ct_85 = true := by decide +kernel
theorem ok_86 : chkM 86 ct_86 = true := by decide +kernel
theorem ok_87 : chkM 87 ct_87 = true := by decide +kernel
theorem ok_88 : chkM 88 ct_88 = true := by decide +kernel
theorem ok_89 : chkM 89 ct_89 = true := by decide +kernel
theorem ok_90 : chkM 90 ct_90 = true := by decide +kernel
theorem ok_91 : chkM 91 ct_91 = true := by decide +kernel
theorem ok_92 : chkM 92 ct_92 = true := by decide +kernel
theorem ok_93 : chkM 93 ct_93 = true := by decide +kernel
theorem ok_94 : chkM 94 ct_94 = true := by decide +kernel
theorem ok_95 : chkM 95 ct_95 = true := by decide +kernel
theorem ok_96 : chkM 96 ct_96 = true := by decide +kernel
theorem ok_97 : chkM 97 ct_97 = true := by decide +kernel
theorem ok_98 : chkM 98 ct_98 = true := by decide +kernel
theorem ok_99 : chkM 99 ct_99 = true := by decide +kernel
theorem ok_100 : chkM 100 ct_100 = true := by decide +kernel
theorem ok_101 : chkM 101 ct_101 = true := by decide +kernel
theorem ok_102 : chkM 102 ct_102 = true := by decide +kernel
theorem ok_103 : chkM 103 ct_103 = true := by decide +kernel
theorem ok_104 : chkM 104 ct_104 = true := by decide +kernel
theorem ok_105 : chkM 105 ct_105 = true := by decide +kernel
theorem ok_106 : chkM 106 ct_106 = true := by decide +kernel
theorem ok_107 : chkM 107 ct_107 = true := by decide +kernel
theorem ok_108 : chkM 108 ct_108 = true := by decide +kernel
theorem ok_109 : chkM 109 ct_109 = true := by decide +kernel
theorem ok_110 : chkM 110 ct_110 = true := by decide +kernel
theorem ok_111 : chkM 111 ct_111 = true := by decide +kernel
theorem ok_112 : chkM 112 ct_112 = true := by decide +kernel
theorem ok_113 : chkM 113 ct_113 = true := by decide +kernel
theorem ok_114 : chkM 114 ct_114 = true := by decide +kernel
theorem ok_115 : chkM 115 ct_115 = true := by decide +kernel
theorem ok_116 : chkM 116 ct_116 = true := by decide +kernel
theorem ok_117 : chkM 117 ct_117 = true := by decide +kernel
theorem ok_118 : chkM 118 ct_118 = true := by decide +kernel
theorem ok_119 : chkM 119 ct_119 = true := by decide +kernel
theorem ok_120 : chkM 120 ct_120 = true := by decide +kernel
theorem ok_121 : chkM 121 ct_121 = true := by decide +kernel
theorem ok_122_0 : chkM 122 ct_122_0 = true := by decide +kernel
theorem ok_122_1 : chkM 122 ct_122_1 = true := by decide +kernel
theorem ok_122_2 : chkM 122 ct_122_2 = true := by decide +kernel
theorem ok_122_3 : chkM 122 ct_122_3 = true := by decide +kernel
theorem ok_122_4 : chkM 122 ct_122_4 = true := by decide +kernel
theorem ok_122_5 : chkM 122 ct_122_5 = true := by decide +kernel
theorem ok_122_6 : chkM 122 ct_122_6 = true := by decide +kernel
theorem ok_122 : chkM 122 ct_122 = true := chkM_app ok_122_0 (chkM_app ok_122_1 (chkM_app ok_122_2 (chkM_app ok_122_3 (chkM_app ok_122_4 (chkM_app ok_122_5 (ok_122_6))))))
theorem ok_123 : chkM 123 ct_123 = true := by decide +kernel
theorem ok_124 : chkM 124 ct_124 = true := by decide +kernel
theorem ok_125 : chkM 125 ct_125 = true := by decide +kernel
theorem ok_126 : chkM 126 ct_126 = true := by decide +kernel
theorem ok_127 : chkM 127 ct_127 = true := by decide +kernel
theorem ok_128 : chkM 128 ct_128 = true := by decide +kernel
theorem ok_129 : chkM 129 ct_129 = true := by decide +kernel
theorem ok_130_0 : chkM 130 ct_130_0 = true := by decide +kernel
theorem ok_130_1 : chkM 130 ct_130_1 = true := by decide +kernel
theorem ok_130 : chkM 130 ct_130 = true := chkM_app ok_130_0 (ok_130_1)
theorem ok_131 : chkM 131 ct_131 = true := by decide +kernel
theorem ok_132 : chkM 132 ct_132 = true := by decide +kernel
theorem ok_133 : chkM 133 ct_133 = true := by decide +kernel
theorem ok_134 : chkM 134 ct_134 = true := by decide +kernel
theorem ok_135 : chkM 135 ct_135 = true := by decide +kernel
theorem ok_136 : chkM 136 ct_136 = true := by decide +kernel
theorem ok_137 : chkM 137 ct_137 = true := by decide +kernel
theorem ok_138 : chkM 138 ct_138 = true := by decide +kernel
theorem ok_139 : chkM 139 ct_139 = true := by decide +kernel
theorem ok_140 : chkM 140 ct_140 = true := by decide +kernel
theorem ok_141 : chkM 141 ct_141 = true := by decide +kernel
theorem ok_142 : chkM 142 ct_142 = true := by decide +kernel
theorem ok_143 : chkM 143 ct_143 = true := by decide +kernel
theorem ok_144 : chkM 144 ct_144 = true := by decide +kernel
theorem ok_145 : chkM 145 ct_145 = true := by decide +kernel
theorem ok_146 : chkM 146 ct_146 = true := by decide +kernel
theorem ok_147 : chkM 147 ct_147 = true := by decide +kernel
theorem ok_148 : chkM 148 ct_148 = true := by decide +kernel
theorem ok_149_0 : chkM 149 ct_149_0 = true := by decide +kernel
theorem ok_149_1 : chkM 149 ct_149_1 = true := by decide +kernel
theorem ok_149_2 : chkM 149 ct_149_2 = true := by decide +kernel
theorem ok_149 : chkM 149 ct_149 = true := chkM_app ok_149_0 (chkM_app ok_149_1 (ok_149_2))
theorem ok_150 : chkM 150 ct_150 = true := by decide +kernel
theorem ok_151 : chkM 151 ct_151 = true := by decide +kernel
theorem ok_152 : chkM 152 ct_152 = true := by decide +kernel
theorem ok_153 : chkM 153 ct_153 = true := by decide +kernel
theorem ok_154 : chkM 154 ct_154 = true := by decide +kernel
theorem ok_155 : chkM 155 ct_155 = true := by decide +kernel
theorem ok_156 : chkM 156 ct_156 = true := by decide +kernel
theorem ok_157 : chkM 157 ct_157 = true := by decide +kernel
theorem ok_158_0 : chkM 158 ct_158_0 = true := by decide +kernel
theorem ok_158_1 : chkM 158 ct_158_1 = true := by decide +kernel
theorem ok_158_2 : chkM 158 ct_158_2 = true := by decide +kernel
theorem ok_158 : chkM 158 ct_158 = true := chkM_app ok_158_0 (chkM_app ok_158_1 (ok_158_2))
theorem ok_159 : chkM 159 ct_159 = true := by decide +kernel
theorem ok_160 : chkM 160 ct_160 = true := by decide +kernel
theorem ok_161 : chkM 161 ct_161 = true := by decide +kernel
theorem ok_162_0 : chkM 162 ct_162_0 = true := by decide +kernel
theorem ok_162_1 : chkM 162 ct_162_1 = true := by decide +kernel
theorem ok_162 : chkM 162 ct_162 = true := chkM_app ok_162_0 (ok_162_1)
theorem ok_163 : chkM 163 ct_163 = true := by decide +kernel
theorem ok_164 : chkM 164 ct_164 = true := by decide +kernel
theorem ok_165 : chkM 165 ct_165 = true := by decide +kernel
theorem ok_166 : chkM 166 ct_166 = true := by decide +kernel
theorem ok_167 : chkM 167 ct_167 = true := by decide +kernel
theorem ok_168 : chkM 168 ct_168 = true := by decide +kernel
theorem ok_169 : chkM 169 ct_169 = true := by decide +kernel
theorem ok_170_0 : chkM 170 ct_170_0 = true := by decide +kernel
theorem ok_170_1 : chkM 170 ct_170_1 = true := by decide +kernel
theorem ok_170 : chkM 170 ct_170 = true := chkM_app ok_170_0 (ok_170_1)
theorem ok_171 : chkM 171 ct_171 = true := by decide +kernel
theorem ok_172 : chkM 172 ct_172 = true := by decide +kernel
theorem ok_173 : chkM 173 ct_173 = true := by decide +kernel
theorem ok_174 : chkM 174 ct_174 = true := by decide +kernel
theorem ok_175 : chkM 175 ct_175 = true := by decide +kernel
theorem ok_176 : chkM 176 ct_176 = true := by decide +kernel
theorem ok_177 : chkM 177 ct_177 = true := by decide +kernel
theorem ok_178 : chkM 178 ct_178 = true := by decide +kernel
theorem ok_179 : chkM 179 ct_179 = true := by decide +kernel
theorem ok_180 : chkM 180 ct_180 = true := by decide +kernel
theorem ok_181 : chkM 181 ct_181 = true := by decide +kernel
theorem ok_182 : chkM 182 ct_182 = true := by decide +kernel
theorem ok_183 : chkM 183 ct_183 = true := by decide +kernel
theorem ok_184_0 : chkM 184 ct_184_0 = true := by decide +kernel
theorem ok_184_1 : chkM 184 ct_184_1 = true := by decide +kernel
theorem ok_184_2 : chkM 184 ct_184_2 = true := by decide +kernel
theorem ok_184 : chkM 184 ct_184 = true := chkM_app ok_184_0 (chkM_app ok_184_1 (ok_184_2))
theorem ok_185 : chkM 185 ct_185 = true := by decide +kernel
theorem ok_186 : chkM 186 ct_186 = true := by decide +kernel
theorem ok_187 : chkM 187 ct_187 = true := by decide +kernel
theorem ok_188 : chkM 188 ct_188 = true := by decide +kernel
theorem ok_189 : chkM 189 ct_189 = true := by decide +kernel
theorem ok_190 : chkM 190 ct_190 = true := by decide +kernel
theorem ok_191 : chkM 191 ct_191 = true := by decide +kernel
theorem ok_192 : chkM 192 ct_192 = true := by decide +kernel
theorem ok_193 : chkM 193 ct_193 = true := by decide +kernel
theorem ok_194 : chkM 194 ct_194 = true := by decide +kernel
theorem ok_195_0 : chkM 195 ct_195_0 = true := by decide +kernel
theorem ok_195_1 : chkM 195 ct_195_1 = true := by decide +kernel
theorem ok_195 : chkM 195 ct_195 = true := chkM_app ok_195_0 (ok_195_1)
theorem ok_196 : chkM 196 ct_196 = true := by decide +kernel
theorem ok_197 : chkM 197 ct_197 = true := by decide +kernel
theorem ok_198 : chkM 198 ct_198 = true := by decide +kernel
theorem ok_199 : chkM 199 ct_199 = true := by decide +kernel
theorem ok_200_0 : chkM 200 ct_200_0 = true := by decide +kernel
theorem ok_200_1 : chkM 200 ct_200_1 = true := by decide +kernel
theorem ok_200 : chkM 200 ct_200 = true := chkM_app ok_200_0 (ok_200_1)
theorem ok_201_0 : chkM 201 ct_201_0 = true := by decide +kernel
theorem ok_201_1 : chkM 201 ct_201_1 = true := by decide +kernel
theorem ok_201_2 : chkM 201 ct_201_2 = true := by decide +kernel
theorem ok_201_3 : chkM 201 ct_201_3 = true := by decide +kernel
theorem ok_201 : chkM 201 ct_201 = true := chkM_app ok_201_0 (chkM_app ok_201_1 (chkM_app ok_201_2 (ok_201_3)))
theorem ok_202_0 : chkM 202 ct_202_0 = true := by decide +kernel
theorem ok_202_1 : chkM 202 ct_202_1 = true := by decide +kernel
theorem ok_202_2 : chkM 202 ct_202_2 = true := by decide +kernel
theorem ok_202_3 : chkM 202 ct_202_3 = true := by decide +kernel
theorem ok_202 : chkM 202 ct_202 = true := chkM_app ok_202_0 (chkM_app ok_202_1 (chkM_app ok_202_2 (ok_202_3)))
theorem ok_203 : chkM 203 ct_203 = true := by decide +kernel
theorem ok_204 : chkM 204 ct_204 = true := by decide +kernel
theorem ok_205 : chkM 205 ct_205 = true := by decide +kernel
theorem ok_206 : chkM 206 ct_206 = true := by decide +kernel
theorem ok_207 : chkM 207 ct_207 = true := by decide +kernel
theorem ok_208 : chkM 208 ct_208 = true := by decide +kernel
theorem ok_209 : chkM 209 ct_209 = true := by decide +kernel
theorem ok_210 : chkM 210 ct_210 = true := by decide +kernel
theorem ok_211 : chkM 211 ct_211 = true := by decide +kernel
theorem ok_212 : chkM 212 ct_212 = true := by decide +kernel
theorem ok_213 : chkM 213 ct_213 = true := by decide +kernel
theorem ok_214 : chkM 214 ct_214 = true := by decide +kernel
theorem ok_215 : chkM 215 ct_215 = true := by decide +kernel
theorem ok_216 : chkM 216 ct_216 = true := by decide +kernel
theorem ok_217 : chkM 217 ct_217 = true := by decide +kernel
theorem ok_218 : chkM 218 ct_218 = true := by decide +kernel
theorem ok_219 : chkM 219 ct_219 = true := by decide +kernel
theorem ok_220_0 : chkM 220 ct_220_0 = true := by decide +kernel
theorem ok_220_1 : chkM 220 ct_220_1 = true := by decide +kernel
theorem ok_220_2 : chkM 220 ct_220_2 = true := by decide +kernel
theorem ok_220 : chkM 220 ct_220 = true := chkM_app ok_220_0 (chkM_app ok_220_1 (ok_220_2))
theorem ok_221 : chkM 221 ct_221 = true := by decide +kernel
theorem ok_222 : chkM 222 ct_222 = true := by decide +kernel
theorem ok_223 : chkM 223 ct_223 = true := by decide +kernel
theorem ok_224 : chkM 224 ct_224 = true := by decide +kernel
theorem ok_225 : chkM 225 ct_225 = true := by decide +kernel
theorem ok_226 : chkM 226 ct_226 = true := by decide +kernel
theorem ok_227 : chkM 227 ct_227 = true := by decide +kernel
theorem ok_228 : chkM 228 ct_228 = true := by decide +kernel
theorem ok_229_0 : chkM 229 ct_229_0 = true := by decide +kernel
theorem ok_229_1 : chkM 229 ct_229_1 = true := by decide +kernel
theorem ok_229_2 : chkM 229 ct_229_2 = true := by decide +kernel
theorem ok_229_3 : chkM 229 ct_229_3 = true := by decide +kernel
theorem ok_229_4 : chkM 229 ct_229_4 = true := by decide +kernel
theorem ok_229_5 : chkM 229 ct_229_5 = true := by decide +kernel
theorem ok_229_6 : chkM 229 ct_229_6 = true := by decide +kernel
theorem ok_229_7 : chkM 229 ct_229_7 = true := by decide +kernel
theorem ok_229_8 : chkM 229 ct_229_8 = true := by decide +kernel
theorem ok_229_9 : chkM 229 ct_229_9 = true := by decide +kernel
theorem ok_229_10 : chkM 229 ct_229_10 = true := by decide +kernel
theorem ok_229_11 : chkM 229 ct_229_11 = true := by decide +kernel
theorem ok_229_12 : chkM 229 ct_229_12 = true := by decide +kernel
theorem ok_229_13 : chkM 229 ct_229_13 = true := by decide +kernel
theorem ok_229_14 : chkM 229 ct_229_14 = true := by decide +kernel
theorem ok_229_15 : chkM 229 ct_229_15 = true := by decide +kernel
theorem ok_229_16 : chkM 229 ct_229_16 = true := by decide +kernel
theorem ok_229_17 : chkM 229 ct_229_17 = true := by decide +kernel
theorem ok_229_18 : chkM 229 ct_229_18 = true := by decide +kernel
theorem ok_229_19 : chkM 229 ct_229_19 = true := by decide +kernel
theorem ok_229_20 : chkM 229 ct_229_20 = true := by decide +kernel
theorem ok_229 : chkM 229 ct_229 = true := chkM_app ok_229_0 (chkM_app ok_229_1 (chkM_app ok_229_2 (chkM_app ok_229_3 (chkM_app ok_229_4 (chkM_app ok_229_5 (chkM_app ok_229_6 (chkM_app ok_229_7 (chkM_app ok_229_8 (chkM_app ok_229_9 (chkM_app ok_229_10 (chkM_app ok_229_11 (chkM_app ok_229_12 (chkM_app ok_229_13 (chkM_app ok_229_14 (chkM_app ok_229_15 (chkM_app ok_229_16 (chkM_app ok_229_17 (chkM_app ok_229_18 (chkM_app ok_229_19 (ok_229_20))))))))))))))))))))
def okAll : Nat → List (List (Nat × AI)) → Prop
  | _, [] => True
  | k, l :: r => chkM k l = true ∧ okAll (k + 1) r
theorem ok_all : okAll 0 CT := ⟨ok_0, ok_1, ok_2, ok_3, ok_4, ok_5, ok_6, ok_7, ok_8, ok_9, ok_10, ok_11, ok_12, ok_13, ok_14, ok_15, ok_16, ok_17, ok_18, ok_19, ok_20, ok_21, ok_22, ok_23, ok_24, ok_25, ok_26, ok_27, ok_28, ok_29, ok_30, ok_31, ok_32, ok_33, ok_34, ok_35, ok_36, ok_37, ok_38, ok_39, ok_40, ok_41, ok_42, ok_43, ok_44, ok_45, ok_46, ok_47, ok_48, ok_49, ok_50, ok_51, ok_52, ok_53, ok_54, ok_55, ok_56, ok_57, ok_58, ok_59, ok_60, ok_61, ok_62, ok_63, ok_64, ok_65, ok_66, ok_67, ok_68, ok_69, ok_70, ok_71, ok_72, ok_73, ok_74, ok_75, ok_76, ok_77, ok_78, ok_79, ok_80, ok_81, ok_82, ok_83, ok_84, ok_85, ok_86, ok_87, ok_88, ok_89, ok_90, ok_91, ok_92, ok_93, ok_94, ok_95, ok_96, ok_97, ok_98, ok_99, ok_100, ok_101, ok_102, ok_103, ok_104, ok_105, ok_106, ok_107, ok_108, ok_109, ok_110, ok_111, ok_112, ok_113, ok_114, ok_115, ok_116, ok_117, ok_118, ok_119, ok_120, ok_121, ok_122, ok_123, ok_124, ok_125, ok_126, ok_127, ok_128, ok_129, ok_130, ok_131, ok_132, ok_133, ok_134, ok_135, ok_136, ok_137, ok_138, ok_139, ok_140, ok_141, ok_142, ok_143, ok_144, ok_145, ok_146, ok_147, ok_148, ok_149, ok_150, ok_151, ok_152, ok_153, ok_154, ok_155, ok_156, ok_157, ok_158, ok_159, ok_160, ok_161, ok_162, ok_163, ok_164, ok_165, ok_166, ok_167, ok_168, ok_169, ok_170, ok_171, ok_172, ok_173, ok_174, ok_175, ok_176, ok_177, ok_178, ok_179, ok_180, ok_181, ok_182, ok_183, ok_184, ok_185, ok_186, ok_187, ok_188, ok_189, ok_190, ok_191, ok_192, ok_193, ok_194, ok_195, ok_196, ok_197, ok_198, ok_199, ok_200, ok_201, ok_202, ok_203, ok_204, ok_205, ok_206, ok_207, ok_208, ok_209, ok_210, ok_211, ok_212, ok_213, ok_214, ok_215, ok_216, ok_217, ok_218, ok_219, ok_220, ok_221, ok_222, ok_223, ok_224, ok_225, ok_226, ok_227, ok_228, ok_229, trivial⟩
theorem okAll_get : ∀ (L : List (List (Nat × AI))) (k M : Nat) (l : List (Nat × AI)), okAll k L → L[M]? = some l → chkM (k + M) l = true
  | [], k, M, l, _, h => by simp at h
  | x :: r, k, 0, l, h, hl => by
    obtain rfl : x = l := by simpa using hl
    exact h.1
  | x :: r, k, M + 1, l, h, hl => by
    have := okAll_get r (k + 1) M l h.2 (by simpa using hl)
    rwa [show k + 1 + M = k + (M + 1) by omega] at this
theorem chk_at {M pc : Nat} {ai : AI} (h : codeAt M pc = some ai) : chkI M pc ai = true := by
  unfold codeAt at h
  obtain ⟨r, hr, rfl⟩ := Option.map_eq_some_iff.mp h
  have hm := List.mem_of_find?_eq_some hr
  have hp : (r.1 == pc) = true := List.find?_some (p := fun r : Nat × AI => r.1 == pc) hr
  have hpc : r.1 = pc := by simpa using hp
  cases hl : CT[M]? with
  | none =>
    rw [List.getD_eq_getElem?_getD, hl] at hm
    cases hm
  | some l =>
    rw [List.getD_eq_getElem?_getD, hl] at hm
    have h0 := okAll_get CT 0 M l ok_all hl
    rw [Nat.zero_add] at h0
    have h1 := List.all_eq_true.mp h0 r hm
    rw [← hpc]
    exact h1
theorem w_ob1 : word 107 (.instanceMethod Lib.objectInit) = true := by decide +kernel
theorem w_ob2 : word 108 (.code Lib.objectInit ⟨#[0xb1]⟩ 1 none) = true := by decide +kernel
theorem w_ac1 : word 415 (.native arraycopyName) = true := by decide +kernel
theorem w_ac2 : word 414 (.static arraycopyName) = true := by decide +kernel
theorem w_ac3 : word 95 (.initialized "java/lang/System") = true := by decide +kernel
theorem w_mm1 : word 818 (.static Lib.Math.min.name) = true := by decide +kernel
theorem w_mm2 : word 100 (.initialized "java/lang/Math") = true := by decide +kernel
theorem w_mm3 : word 819 (.code Lib.Math.min.name Lib.Math.min.code 2 (some .int)) = true := by decide +kernel
