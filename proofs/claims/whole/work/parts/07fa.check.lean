-- 95a: the tables of part 02 say what the class files and the tables' words say: checked by the kernel, row by row
def mCode (M : Nat) : ByteArray := match MT[M]? with | some r => r.2.1 | none => ⟨#[]⟩
def lenOK (ins : Instr) (n : Nat) : Bool := match ins with
  | .tableswitch .. => true
  | .lookupswitch .. => true
  | .iload _ => decide (n = 2)
  | .lload _ => decide (n = 2)
  | .aload _ => decide (n = 2)
  | .istore _ => decide (n = 2)
  | .astore _ => decide (n = 2)
  | .bipush _ => decide (n = 2)
  | .ldc _ => decide (n = 2)
  | .newarray _ => decide (n = 2)
  | .sipush _ => decide (n = 3)
  | .ldc_w _ => decide (n = 3)
  | .ldc2_w _ => decide (n = 3)
  | .iinc _ _ => decide (n = 3)
  | .getfield _ => decide (n = 3)
  | .putfield _ => decide (n = 3)
  | .getstatic _ => decide (n = 3)
  | .new _ => decide (n = 3)
  | .anewarray _ => decide (n = 3)
  | .invokevirtual _ => decide (n = 3)
  | .invokespecial _ => decide (n = 3)
  | .invokestatic _ => decide (n = 3)
  | .goto _ => decide (n = 3)
  | .ifCond _ _ => decide (n = 3)
  | .if_icmp _ _ => decide (n = 3)
  | .ifnull _ => decide (n = 3)
  | .ifnonnull _ => decide (n = 3)
  | _ => decide (n = 1)
/-- the text constants: the class's entry, the base cell -/
def ldcL : List (Nat × Nat) := [(57, 3), (59, 4), (61, 5), (91, 6), (97, 7), (99, 8)]
/-- how many parameters a method has -/
def NA : List Nat := [0, 0, 0, 5, 4, 1, 3, 0, 3, 4, 5, 1, 1, 0, 2, 0, 1, 0, 1, 2, 1, 1, 2, 1, 1, 0, 4, 2, 1, 4, 2, 2, 1, 0, 2, 3, 1, 1, 0, 0, 0, 0, 0, 0, 2, 1, 2, 2, 2, 3, 5, 6, 3, 0, 1, 0, 0, 0, 1, 1, 1, 1, 1, 0, 0, 1, 1, 1, 0, 3, 0, 2, 1, 2, 2, 3, 2, 1, 2, 3, 1, 0, 1, 1, 2, 1, 2, 3, 2, 2, 2, 0, 2, 3, 1, 2, 1, 2, 0, 2, 0, 0, 3, 1, 2, 1, 3, 3, 2, 5, 1, 1, 1, 1, 1, 1, 1, 2, 2, 1, 2, 3, 0, 3, 2, 1, 1, 1, 1, 1, 2, 2, 1, 2, 1, 2, 2, 3, 1, 0, 1, 2, 0, 0, 1, 0, 1, 1, 0, 1, 1, 1, 1, 0, 0, 0, 0, 3, 3, 2, 2, 1, 2, 2, 1, 2, 3, 1, 0, 0, 0, 1, 1, 0, 0, 1, 2, 0, 1, 2, 1, 1, 2, 1, 3, 2, 2, 1, 2, 0, 2, 2, 3, 3, 1, 2, 2, 1, 2, 0, 2, 0, 0, 1, 2, 2, 2, 2, 2, 2, 2, 3, 1, 2, 1, 1, 3, 2, 3, 2, 5, 1, 0, 1, 0, 0, 2, 2, 3, 1]
/-- 0 static, 1 a constructor, 2 another -/
def kindM (a : Nat) : Nat := match MT[a]? with
  | some (y, _, _, _, _, p2, _, _) => if y.name = "<init>" then 1 else match lw_tbl[p2]? with | some (.static _) => 0 | _ => 2
  | none => 9
/-- a callee's own words, but for its code's -/
def calM (a : Nat) : Bool := match MT[a]? with
  | some (y, _, nl, rt, _, p2, p3, p4) =>
    word p4 (.initialized y.cls) && decide (nl ≤ 40) && plainName y.cls && decide (y.cls ≠ "java/lang/invoke/MethodHandle" ∧ y.cls ≠ "java/lang/invoke/VarHandle") && decide ((parseMethodDescriptor y.desc).map (fun q => q.parameters.length) = some (NA.getD a 99)) &&
    (if kindM a = 0 then word p2 (.static y) else if kindM a = 1 then word p2 (.instanceMethod y) && decide (rt = none) else word p2 (.instanceMethod y) && word p3 (.selects y.cls y y))
  | none => false
def CalP (a : Nat) : Prop := (∃ p1 : Nat, lw_tbl[p1]? = some (.code (mName a) (mCode a) (mLoc a) (mRet a))) ∧ calM a = true
def calS (k a e : Nat) : Bool := decide (a < 229) && decide (kindM a = k) && decide (e = NA.getD a 99)
def lnk (M pc : Nat) (ins : Instr) (a b c e : Nat) (v : Int) : Bool :=
  let own := (mName M).cls
  match ins with
  | .istore k => decide (k < mLoc M)
  | .istore_n k => decide ((k : Nat) < mLoc M)
  | .astore k => decide (k < mLoc M)
  | .astore_n k => decide ((k : Nat) < mLoc M)
  | .iinc k _ => decide (k < mLoc M)
  | .goto off => offOK pc off
  | .ifCond _ off => offOK pc off
  | .if_icmp _ off => offOK pc off
  | .ifnull off => offOK pc off
  | .ifnonnull off => offOK pc off
  | .tableswitch dflt lo hi offs => offOK pc dflt && offs.toList.all (offOK pc) && decide (hi + 1 = lo + offs.toList.length) && decide (-2 ^ 31 ≤ lo) && decide (hi < 2 ^ 31)
  | .lookupswitch dflt ps => offOK pc dflt && ps.toList.all (fun q => offOK pc q.2 && decide (-2 ^ 31 ≤ q.1) && decide (q.1 < 2 ^ 31)) && (ps.toList.zip (ps.toList.drop 1)).all (fun (q, next) => q.1 < next.1)
  | .ldc i => decide ((i, a) ∈ ldcL) && decide (own = "MilestoneMaids$WayReader")
  | .ldc_w i => word c (.constant own i (Int32.ofInt v))
  | .ldc2_w i => word c (.constantLong own i (Int64.ofInt v))
  | .getfield i =>
    if a = 50 then (if b = 0 then word c (.fieldLink own i "java/lang/String" "value" "[B") else word c (.fieldLink own i "java/lang/String" "coder" "B"))
    else match vwCl[a]? with
      | some (C, T, N) => decide (b < N) && word c (.fieldLink own i C (T b).2.1 (T b).2.2.1) && decide ((T b).1 = C) && decide (e = fk a b)
      | none => false
  | .putfield i => match vwCl[a]? with
      | some (C, T, N) => decide (b < N) && word c (.fieldLink own i C (T b).2.1 (T b).2.2.1) && decide ((T b).1 = C) && decide (e = fk a b) && (if (T b).2.2.2 = true then decide (own = C) && decide ((mName M).name = "<init>") else true)
      | none => false
  | .new i => match vwCl[a]? with
      | some (C, _, N) => word c (.classLink own i C) && word b (.instantiable C N) && word e (.initialized C)
      | none => false
  | .newarray t => decide ((t = .int ∧ a = 20) ∨ (t = .long ∧ a = 21) ∨ (t = .boolean ∧ a = 22)) && word c (.arrayClass (newarray.typeOf t))
  | .anewarray i => word c (.classLink own i "MilestoneMaids$Tape")
  | .getstatic i =>
    if a = 21 then word c (.fieldLink own i "java/lang/String" "COMPACT_STRINGS" "Z")
    else if a = 20 then word c (.fieldLink own i "jdk/internal/util/Preconditions" "SIOOBE_FORMATTER" "Ljava/util/function/BiFunction;")
    else if a = 1 then (if b = 0 then word c (.fieldLink own i "MilestoneMaids" "KIND_ABOVE" "[I") else word c (.fieldLinkNest own i "MilestoneMaids" "KIND_ABOVE" "[I" "MilestoneMaids"))
    else decide (a = 2) && (if b = 0 then word c (.fieldLink own i "MilestoneMaids" "BODIES" "[I") else word c (.fieldLinkNest own i "MilestoneMaids" "BODIES" "[I" "MilestoneMaids"))
  | .invokevirtual i => calS 2 a e && decide (b = 0) && word c (.methodLink own i (mName a))
  | .invokespecial i =>
    if a = 1001 then word c (.methodLink own i Lib.objectInit)
    else calS 1 a e && (if b = 0 then word c (.methodLink own i (mName a)) else word c (.methodLinkNest own i (mName a) "MilestoneMaids"))
  | .invokestatic i =>
    if a = 1002 then word c (.methodLink own i Lib.Math.min.name)
    else if a = 1000 then word c (.methodLink own i arraycopyName)
    else calS 0 a e && decide (b = 0) && word c (.methodLink own i (mName a))
  | .areturn => (match mRet M with | some (.object _) => true | some (.array _) => true | _ => false)
  | .lreturn => decide (mRet M = some .long)
  | .return_ => decide (mRet M = none)
  | _ => true
def chkI (M pc : Nat) : AI → Bool
  | (ins, a, b, c, e, v) => (match decode (mCode M) pc with | .ok (i2, n) => decide (i2 = ins) && lenOK ins n | _ => false) && lnk M pc ins a b c e v
def chkM (M : Nat) (l : List (Nat × AI)) : Bool := l.all fun r => chkI M r.1 r.2
set_option maxRecDepth 20000 in
theorem cal_0 : CalP 0 := ⟨⟨248, rfl⟩, by decide +kernel⟩
set_option maxRecDepth 20000 in
theorem cal_1 : CalP 1 := ⟨⟨788, rfl⟩, by decide +kernel⟩
set_option maxRecDepth 20000 in
theorem cal_2 : CalP 2 := ⟨⟨816, rfl⟩, by decide +kernel⟩
set_option maxRecDepth 20000 in
theorem cal_3 : CalP 3 := ⟨⟨792, rfl⟩, by decide +kernel⟩
set_option maxRecDepth 20000 in
theorem cal_4 : CalP 4 := ⟨⟨796, rfl⟩, by decide +kernel⟩
set_option maxRecDepth 20000 in
theorem cal_5 : CalP 5 := ⟨⟨804, rfl⟩, by decide +kernel⟩
set_option maxRecDepth 20000 in
theorem cal_6 : CalP 6 := ⟨⟨808, rfl⟩, by decide +kernel⟩
set_option maxRecDepth 20000 in
theorem cal_7 : CalP 7 := ⟨⟨227, rfl⟩, by decide +kernel⟩
set_option maxRecDepth 20000 in
theorem cal_8 : CalP 8 := ⟨⟨658, rfl⟩, by decide +kernel⟩
set_option maxRecDepth 20000 in
theorem cal_9 : CalP 9 := ⟨⟨662, rfl⟩, by decide +kernel⟩
set_option maxRecDepth 20000 in
theorem cal_10 : CalP 10 := ⟨⟨672, rfl⟩, by decide +kernel⟩
set_option maxRecDepth 20000 in
theorem cal_11 : CalP 11 := ⟨⟨667, rfl⟩, by decide +kernel⟩
set_option maxRecDepth 20000 in
theorem cal_12 : CalP 12 := ⟨⟨119, rfl⟩, by decide +kernel⟩
set_option maxRecDepth 20000 in
theorem cal_13 : CalP 13 := ⟨⟨694, rfl⟩, by decide +kernel⟩
set_option maxRecDepth 20000 in
theorem cal_14 : CalP 14 := ⟨⟨698, rfl⟩, by decide +kernel⟩
set_option maxRecDepth 20000 in
theorem cal_15 : CalP 15 := ⟨⟨690, rfl⟩, by decide +kernel⟩
set_option maxRecDepth 20000 in
theorem cal_16 : CalP 16 := ⟨⟨419, rfl⟩, by decide +kernel⟩
set_option maxRecDepth 20000 in
theorem cal_17 : CalP 17 := ⟨⟨113, rfl⟩, by decide +kernel⟩
set_option maxRecDepth 20000 in
theorem cal_18 : CalP 18 := ⟨⟨412, rfl⟩, by decide +kernel⟩
set_option maxRecDepth 20000 in
theorem cal_19 : CalP 19 := ⟨⟨330, rfl⟩, by decide +kernel⟩
set_option maxRecDepth 20000 in
theorem cal_20 : CalP 20 := ⟨⟨341, rfl⟩, by decide +kernel⟩
set_option maxRecDepth 20000 in
theorem cal_21 : CalP 21 := ⟨⟨353, rfl⟩, by decide +kernel⟩
set_option maxRecDepth 20000 in
theorem cal_22 : CalP 22 := ⟨⟨463, rfl⟩, by decide +kernel⟩
set_option maxRecDepth 20000 in
theorem cal_23 : CalP 23 := ⟨⟨404, rfl⟩, by decide +kernel⟩
set_option maxRecDepth 20000 in
theorem cal_24 : CalP 24 := ⟨⟨455, rfl⟩, by decide +kernel⟩
set_option maxRecDepth 20000 in
theorem cal_25 : CalP 25 := ⟨⟨434, rfl⟩, by decide +kernel⟩
set_option maxRecDepth 20000 in
theorem cal_26 : CalP 26 := ⟨⟨386, rfl⟩, by decide +kernel⟩
set_option maxRecDepth 20000 in
theorem cal_27 : CalP 27 := ⟨⟨389, rfl⟩, by decide +kernel⟩
set_option maxRecDepth 20000 in
theorem cal_28 : CalP 28 := ⟨⟨392, rfl⟩, by decide +kernel⟩
set_option maxRecDepth 20000 in
theorem cal_29 : CalP 29 := ⟨⟨365, rfl⟩, by decide +kernel⟩
set_option maxRecDepth 20000 in
theorem cal_30 : CalP 30 := ⟨⟨361, rfl⟩, by decide +kernel⟩
set_option maxRecDepth 20000 in
theorem cal_31 : CalP 31 := ⟨⟨646, rfl⟩, by decide +kernel⟩
set_option maxRecDepth 20000 in
theorem cal_32 : CalP 32 := ⟨⟨357, rfl⟩, by decide +kernel⟩
set_option maxRecDepth 20000 in
theorem cal_33 : CalP 33 := ⟨⟨629, rfl⟩, by decide +kernel⟩
set_option maxRecDepth 20000 in
theorem cal_34 : CalP 34 := ⟨⟨681, rfl⟩, by decide +kernel⟩
set_option maxRecDepth 20000 in
theorem cal_35 : CalP 35 := ⟨⟨706, rfl⟩, by decide +kernel⟩
set_option maxRecDepth 20000 in
theorem cal_36 : CalP 36 := ⟨⟨424, rfl⟩, by decide +kernel⟩
set_option maxRecDepth 20000 in
theorem cal_37 : CalP 37 := ⟨⟨429, rfl⟩, by decide +kernel⟩
set_option maxRecDepth 20000 in
theorem cal_38 : CalP 38 := ⟨⟨746, rfl⟩, by decide +kernel⟩
set_option maxRecDepth 20000 in
theorem cal_39 : CalP 39 := ⟨⟨761, rfl⟩, by decide +kernel⟩
set_option maxRecDepth 20000 in
theorem cal_40 : CalP 40 := ⟨⟨621, rfl⟩, by decide +kernel⟩
set_option maxRecDepth 20000 in
theorem cal_41 : CalP 41 := ⟨⟨625, rfl⟩, by decide +kernel⟩
set_option maxRecDepth 20000 in
theorem cal_42 : CalP 42 := ⟨⟨730, rfl⟩, by decide +kernel⟩
set_option maxRecDepth 20000 in
theorem cal_43 : CalP 43 := ⟨⟨273, rfl⟩, by decide +kernel⟩
set_option maxRecDepth 20000 in
theorem cal_44 : CalP 44 := ⟨⟨839, rfl⟩, by decide +kernel⟩
set_option maxRecDepth 20000 in
theorem cal_45 : CalP 45 := ⟨⟨847, rfl⟩, by decide +kernel⟩
set_option maxRecDepth 20000 in
theorem cal_46 : CalP 46 := ⟨⟨863, rfl⟩, by decide +kernel⟩
set_option maxRecDepth 20000 in
theorem cal_47 : CalP 47 := ⟨⟨851, rfl⟩, by decide +kernel⟩
set_option maxRecDepth 20000 in
theorem cal_48 : CalP 48 := ⟨⟨602, rfl⟩, by decide +kernel⟩
set_option maxRecDepth 20000 in
theorem cal_49 : CalP 49 := ⟨⟨584, rfl⟩, by decide +kernel⟩
set_option maxRecDepth 20000 in
theorem cal_50 : CalP 50 := ⟨⟨370, rfl⟩, by decide +kernel⟩
set_option maxRecDepth 20000 in
theorem cal_51 : CalP 51 := ⟨⟨373, rfl⟩, by decide +kernel⟩
set_option maxRecDepth 20000 in
theorem cal_52 : CalP 52 := ⟨⟨382, rfl⟩, by decide +kernel⟩
set_option maxRecDepth 20000 in
theorem cal_53 : CalP 53 := ⟨⟨197, rfl⟩, by decide +kernel⟩
set_option maxRecDepth 20000 in
theorem cal_54 : CalP 54 := ⟨⟨475, rfl⟩, by decide +kernel⟩
set_option maxRecDepth 20000 in
theorem cal_55 : CalP 55 := ⟨⟨596, rfl⟩, by decide +kernel⟩
set_option maxRecDepth 20000 in
theorem cal_56 : CalP 56 := ⟨⟨483, rfl⟩, by decide +kernel⟩
set_option maxRecDepth 20000 in
theorem cal_57 : CalP 57 := ⟨⟨487, rfl⟩, by decide +kernel⟩
set_option maxRecDepth 20000 in
theorem cal_58 : CalP 58 := ⟨⟨563, rfl⟩, by decide +kernel⟩
set_option maxRecDepth 20000 in
theorem cal_59 : CalP 59 := ⟨⟨567, rfl⟩, by decide +kernel⟩
set_option maxRecDepth 20000 in
theorem cal_60 : CalP 60 := ⟨⟨571, rfl⟩, by decide +kernel⟩
set_option maxRecDepth 20000 in
theorem cal_61 : CalP 61 := ⟨⟨588, rfl⟩, by decide +kernel⟩
set_option maxRecDepth 20000 in
theorem cal_62 : CalP 62 := ⟨⟨592, rfl⟩, by decide +kernel⟩
set_option maxRecDepth 20000 in
theorem cal_63 : CalP 63 := ⟨⟨575, rfl⟩, by decide +kernel⟩
set_option maxRecDepth 20000 in
theorem cal_64 : CalP 64 := ⟨⟨554, rfl⟩, by decide +kernel⟩
set_option maxRecDepth 20000 in
theorem cal_65 : CalP 65 := ⟨⟨498, rfl⟩, by decide +kernel⟩
set_option maxRecDepth 20000 in
theorem cal_66 : CalP 66 := ⟨⟨559, rfl⟩, by decide +kernel⟩
set_option maxRecDepth 20000 in
theorem cal_67 : CalP 67 := ⟨⟨550, rfl⟩, by decide +kernel⟩
set_option maxRecDepth 20000 in
theorem cal_68 : CalP 68 := ⟨⟨491, rfl⟩, by decide +kernel⟩
set_option maxRecDepth 20000 in
theorem cal_69 : CalP 69 := ⟨⟨581, rfl⟩, by decide +kernel⟩
set_option maxRecDepth 20000 in
theorem cal_70 : CalP 70 := ⟨⟨105, rfl⟩, by decide +kernel⟩
set_option maxRecDepth 20000 in
theorem cal_71 : CalP 71 := ⟨⟨320, rfl⟩, by decide +kernel⟩
set_option maxRecDepth 20000 in
theorem cal_72 : CalP 72 := ⟨⟨334, rfl⟩, by decide +kernel⟩
set_option maxRecDepth 20000 in
theorem cal_73 : CalP 73 := ⟨⟨345, rfl⟩, by decide +kernel⟩
set_option maxRecDepth 20000 in
theorem cal_74 : CalP 74 := ⟨⟨396, rfl⟩, by decide +kernel⟩
set_option maxRecDepth 20000 in
theorem cal_75 : CalP 75 := ⟨⟨438, rfl⟩, by decide +kernel⟩
set_option maxRecDepth 20000 in
theorem cal_76 : CalP 76 := ⟨⟨447, rfl⟩, by decide +kernel⟩
set_option maxRecDepth 20000 in
theorem cal_77 : CalP 77 := ⟨⟨451, rfl⟩, by decide +kernel⟩
set_option maxRecDepth 20000 in
theorem cal_78 : CalP 78 := ⟨⟨459, rfl⟩, by decide +kernel⟩
set_option maxRecDepth 20000 in
theorem cal_79 : CalP 79 := ⟨⟨467, rfl⟩, by decide +kernel⟩
set_option maxRecDepth 20000 in
theorem cal_80 : CalP 80 := ⟨⟨471, rfl⟩, by decide +kernel⟩
set_option maxRecDepth 20000 in
theorem cal_81 : CalP 81 := ⟨⟨479, rfl⟩, by decide +kernel⟩
set_option maxRecDepth 20000 in
theorem cal_82 : CalP 82 := ⟨⟨616, rfl⟩, by decide +kernel⟩
set_option maxRecDepth 20000 in
theorem cal_83 : CalP 83 := ⟨⟨634, rfl⟩, by decide +kernel⟩
set_option maxRecDepth 20000 in
theorem cal_84 : CalP 84 := ⟨⟨638, rfl⟩, by decide +kernel⟩
set_option maxRecDepth 20000 in
theorem cal_85 : CalP 85 := ⟨⟨642, rfl⟩, by decide +kernel⟩
set_option maxRecDepth 20000 in
theorem cal_86 : CalP 86 := ⟨⟨650, rfl⟩, by decide +kernel⟩
set_option maxRecDepth 20000 in
theorem cal_87 : CalP 87 := ⟨⟨654, rfl⟩, by decide +kernel⟩
set_option maxRecDepth 20000 in
theorem cal_88 : CalP 88 := ⟨⟨677, rfl⟩, by decide +kernel⟩
set_option maxRecDepth 20000 in
theorem cal_89 : CalP 89 := ⟨⟨686, rfl⟩, by decide +kernel⟩
set_option maxRecDepth 20000 in
theorem cal_90 : CalP 90 := ⟨⟨702, rfl⟩, by decide +kernel⟩
set_option maxRecDepth 20000 in
theorem cal_91 : CalP 91 := ⟨⟨710, rfl⟩, by decide +kernel⟩
set_option maxRecDepth 20000 in
theorem cal_92 : CalP 92 := ⟨⟨714, rfl⟩, by decide +kernel⟩
set_option maxRecDepth 20000 in
theorem cal_93 : CalP 93 := ⟨⟨718, rfl⟩, by decide +kernel⟩
set_option maxRecDepth 20000 in
theorem cal_94 : CalP 94 := ⟨⟨726, rfl⟩, by decide +kernel⟩
set_option maxRecDepth 20000 in
theorem cal_95 : CalP 95 := ⟨⟨734, rfl⟩, by decide +kernel⟩
set_option maxRecDepth 20000 in
theorem cal_96 : CalP 96 := ⟨⟨742, rfl⟩, by decide +kernel⟩
set_option maxRecDepth 20000 in
theorem cal_97 : CalP 97 := ⟨⟨753, rfl⟩, by decide +kernel⟩
set_option maxRecDepth 20000 in
theorem cal_98 : CalP 98 := ⟨⟨757, rfl⟩, by decide +kernel⟩
set_option maxRecDepth 20000 in
theorem cal_99 : CalP 99 := ⟨⟨765, rfl⟩, by decide +kernel⟩
set_option maxRecDepth 20000 in
theorem cal_100 : CalP 100 := ⟨⟨776, rfl⟩, by decide +kernel⟩
set_option maxRecDepth 20000 in
theorem cal_101 : CalP 101 := ⟨⟨780, rfl⟩, by decide +kernel⟩
set_option maxRecDepth 20000 in
theorem cal_102 : CalP 102 := ⟨⟨784, rfl⟩, by decide +kernel⟩
set_option maxRecDepth 20000 in
theorem cal_103 : CalP 103 := ⟨⟨812, rfl⟩, by decide +kernel⟩
set_option maxRecDepth 20000 in
theorem cal_104 : CalP 104 := ⟨⟨823, rfl⟩, by decide +kernel⟩
set_option maxRecDepth 20000 in
theorem cal_105 : CalP 105 := ⟨⟨831, rfl⟩, by decide +kernel⟩
set_option maxRecDepth 20000 in
theorem cal_106 : CalP 106 := ⟨⟨835, rfl⟩, by decide +kernel⟩
set_option maxRecDepth 20000 in
theorem cal_107 : CalP 107 := ⟨⟨843, rfl⟩, by decide +kernel⟩
set_option maxRecDepth 20000 in
theorem cal_108 : CalP 108 := ⟨⟨855, rfl⟩, by decide +kernel⟩
set_option maxRecDepth 20000 in
theorem cal_109 : CalP 109 := ⟨⟨859, rfl⟩, by decide +kernel⟩
set_option maxRecDepth 20000 in
theorem cal_110 : CalP 110 := ⟨⟨323, rfl⟩, by decide +kernel⟩
set_option maxRecDepth 20000 in
theorem cal_111 : CalP 111 := ⟨⟨326, rfl⟩, by decide +kernel⟩
set_option maxRecDepth 20000 in
theorem cal_112 : CalP 112 := ⟨⟨337, rfl⟩, by decide +kernel⟩
set_option maxRecDepth 20000 in
theorem cal_113 : CalP 113 := ⟨⟨441, rfl⟩, by decide +kernel⟩
set_option maxRecDepth 20000 in
theorem cal_114 : CalP 114 := ⟨⟨768, rfl⟩, by decide +kernel⟩
set_option maxRecDepth 20000 in
theorem cal_115 : CalP 115 := ⟨⟨349, rfl⟩, by decide +kernel⟩
set_option maxRecDepth 20000 in
theorem cal_116 : CalP 116 := ⟨⟨400, rfl⟩, by decide +kernel⟩
set_option maxRecDepth 20000 in
theorem cal_117 : CalP 117 := ⟨⟨738, rfl⟩, by decide +kernel⟩
set_option maxRecDepth 20000 in
theorem cal_118 : CalP 118 := ⟨⟨826, rfl⟩, by decide +kernel⟩
set_option maxRecDepth 20000 in
theorem cal_119 : CalP 119 := ⟨⟨408, rfl⟩, by decide +kernel⟩
set_option maxRecDepth 20000 in
theorem cal_120 : CalP 120 := ⟨⟨772, rfl⟩, by decide +kernel⟩
set_option maxRecDepth 20000 in
theorem cal_121 : CalP 121 := ⟨⟨722, rfl⟩, by decide +kernel⟩
set_option maxRecDepth 20000 in
theorem cal_122 : CalP 122 := ⟨⟨869, rfl⟩, by decide +kernel⟩
set_option maxRecDepth 20000 in
theorem cal_123 : CalP 123 := ⟨⟨1096, rfl⟩, by decide +kernel⟩
set_option maxRecDepth 20000 in
theorem cal_124 : CalP 124 := ⟨⟨1132, rfl⟩, by decide +kernel⟩
set_option maxRecDepth 20000 in
theorem cal_125 : CalP 125 := ⟨⟨1240, rfl⟩, by decide +kernel⟩
set_option maxRecDepth 20000 in
theorem cal_126 : CalP 126 := ⟨⟨1128, rfl⟩, by decide +kernel⟩
set_option maxRecDepth 20000 in
theorem cal_127 : CalP 127 := ⟨⟨1116, rfl⟩, by decide +kernel⟩
set_option maxRecDepth 20000 in
theorem cal_128 : CalP 128 := ⟨⟨1104, rfl⟩, by decide +kernel⟩
set_option maxRecDepth 20000 in
theorem cal_129 : CalP 129 := ⟨⟨1264, rfl⟩, by decide +kernel⟩
set_option maxRecDepth 20000 in
theorem cal_130 : CalP 130 := ⟨⟨1092, rfl⟩, by decide +kernel⟩
set_option maxRecDepth 20000 in
theorem cal_131 : CalP 131 := ⟨⟨1108, rfl⟩, by decide +kernel⟩
set_option maxRecDepth 20000 in
theorem cal_132 : CalP 132 := ⟨⟨1100, rfl⟩, by decide +kernel⟩
set_option maxRecDepth 20000 in
theorem cal_133 : CalP 133 := ⟨⟨1112, rfl⟩, by decide +kernel⟩
set_option maxRecDepth 20000 in
theorem cal_134 : CalP 134 := ⟨⟨1120, rfl⟩, by decide +kernel⟩
set_option maxRecDepth 20000 in
theorem cal_135 : CalP 135 := ⟨⟨1136, rfl⟩, by decide +kernel⟩
set_option maxRecDepth 20000 in
theorem cal_136 : CalP 136 := ⟨⟨1124, rfl⟩, by decide +kernel⟩
set_option maxRecDepth 20000 in
theorem cal_137 : CalP 137 := ⟨⟨1140, rfl⟩, by decide +kernel⟩
set_option maxRecDepth 20000 in
theorem cal_138 : CalP 138 := ⟨⟨1144, rfl⟩, by decide +kernel⟩
set_option maxRecDepth 20000 in
theorem cal_139 : CalP 139 := ⟨⟨1164, rfl⟩, by decide +kernel⟩
set_option maxRecDepth 20000 in
theorem cal_140 : CalP 140 := ⟨⟨1172, rfl⟩, by decide +kernel⟩
set_option maxRecDepth 20000 in
theorem cal_141 : CalP 141 := ⟨⟨1168, rfl⟩, by decide +kernel⟩
set_option maxRecDepth 20000 in
theorem cal_142 : CalP 142 := ⟨⟨1180, rfl⟩, by decide +kernel⟩
set_option maxRecDepth 20000 in
theorem cal_143 : CalP 143 := ⟨⟨1176, rfl⟩, by decide +kernel⟩
set_option maxRecDepth 20000 in
theorem cal_144 : CalP 144 := ⟨⟨1196, rfl⟩, by decide +kernel⟩
set_option maxRecDepth 20000 in
theorem cal_145 : CalP 145 := ⟨⟨1200, rfl⟩, by decide +kernel⟩
set_option maxRecDepth 20000 in
theorem cal_146 : CalP 146 := ⟨⟨1204, rfl⟩, by decide +kernel⟩
set_option maxRecDepth 20000 in
theorem cal_147 : CalP 147 := ⟨⟨1192, rfl⟩, by decide +kernel⟩
set_option maxRecDepth 20000 in
theorem cal_148 : CalP 148 := ⟨⟨1188, rfl⟩, by decide +kernel⟩
set_option maxRecDepth 20000 in
theorem cal_149 : CalP 149 := ⟨⟨1184, rfl⟩, by decide +kernel⟩
set_option maxRecDepth 20000 in
theorem cal_150 : CalP 150 := ⟨⟨1160, rfl⟩, by decide +kernel⟩
set_option maxRecDepth 20000 in
theorem cal_151 : CalP 151 := ⟨⟨1156, rfl⟩, by decide +kernel⟩
set_option maxRecDepth 20000 in
theorem cal_152 : CalP 152 := ⟨⟨1152, rfl⟩, by decide +kernel⟩
set_option maxRecDepth 20000 in
theorem cal_153 : CalP 153 := ⟨⟨1148, rfl⟩, by decide +kernel⟩
set_option maxRecDepth 20000 in
theorem cal_154 : CalP 154 := ⟨⟨1224, rfl⟩, by decide +kernel⟩
set_option maxRecDepth 20000 in
theorem cal_155 : CalP 155 := ⟨⟨1228, rfl⟩, by decide +kernel⟩
set_option maxRecDepth 20000 in
theorem cal_156 : CalP 156 := ⟨⟨1280, rfl⟩, by decide +kernel⟩
set_option maxRecDepth 20000 in
theorem cal_157 : CalP 157 := ⟨⟨1236, rfl⟩, by decide +kernel⟩
set_option maxRecDepth 20000 in
theorem cal_158 : CalP 158 := ⟨⟨1232, rfl⟩, by decide +kernel⟩
set_option maxRecDepth 20000 in
theorem cal_159 : CalP 159 := ⟨⟨1220, rfl⟩, by decide +kernel⟩
set_option maxRecDepth 20000 in
theorem cal_160 : CalP 160 := ⟨⟨1248, rfl⟩, by decide +kernel⟩
set_option maxRecDepth 20000 in
theorem cal_161 : CalP 161 := ⟨⟨1252, rfl⟩, by decide +kernel⟩
set_option maxRecDepth 20000 in
theorem cal_162 : CalP 162 := ⟨⟨1244, rfl⟩, by decide +kernel⟩
set_option maxRecDepth 20000 in
theorem cal_163 : CalP 163 := ⟨⟨1216, rfl⟩, by decide +kernel⟩
set_option maxRecDepth 20000 in
theorem cal_164 : CalP 164 := ⟨⟨1212, rfl⟩, by decide +kernel⟩
set_option maxRecDepth 20000 in
theorem cal_165 : CalP 165 := ⟨⟨1208, rfl⟩, by decide +kernel⟩
set_option maxRecDepth 20000 in
theorem cal_166 : CalP 166 := ⟨⟨1256, rfl⟩, by decide +kernel⟩
set_option maxRecDepth 20000 in
theorem cal_167 : CalP 167 := ⟨⟨1276, rfl⟩, by decide +kernel⟩
set_option maxRecDepth 20000 in
theorem cal_168 : CalP 168 := ⟨⟨1304, rfl⟩, by decide +kernel⟩
set_option maxRecDepth 20000 in
theorem cal_169 : CalP 169 := ⟨⟨1308, rfl⟩, by decide +kernel⟩
set_option maxRecDepth 20000 in
theorem cal_170 : CalP 170 := ⟨⟨1272, rfl⟩, by decide +kernel⟩
set_option maxRecDepth 20000 in
theorem cal_171 : CalP 171 := ⟨⟨1268, rfl⟩, by decide +kernel⟩
set_option maxRecDepth 20000 in
theorem cal_172 : CalP 172 := ⟨⟨1260, rfl⟩, by decide +kernel⟩
set_option maxRecDepth 20000 in
theorem cal_173 : CalP 173 := ⟨⟨1292, rfl⟩, by decide +kernel⟩
set_option maxRecDepth 20000 in
theorem cal_174 : CalP 174 := ⟨⟨1296, rfl⟩, by decide +kernel⟩
set_option maxRecDepth 20000 in
theorem cal_175 : CalP 175 := ⟨⟨1288, rfl⟩, by decide +kernel⟩
set_option maxRecDepth 20000 in
theorem cal_176 : CalP 176 := ⟨⟨1284, rfl⟩, by decide +kernel⟩
set_option maxRecDepth 20000 in
theorem cal_177 : CalP 177 := ⟨⟨1312, rfl⟩, by decide +kernel⟩
set_option maxRecDepth 20000 in
theorem cal_178 : CalP 178 := ⟨⟨1300, rfl⟩, by decide +kernel⟩
set_option maxRecDepth 20000 in
theorem cal_179 : CalP 179 := ⟨⟨1316, rfl⟩, by decide +kernel⟩
set_option maxRecDepth 20000 in
theorem cal_180 : CalP 180 := ⟨⟨1324, rfl⟩, by decide +kernel⟩
set_option maxRecDepth 20000 in
theorem cal_181 : CalP 181 := ⟨⟨1320, rfl⟩, by decide +kernel⟩
set_option maxRecDepth 20000 in
theorem cal_182 : CalP 182 := ⟨⟨1328, rfl⟩, by decide +kernel⟩
set_option maxRecDepth 20000 in
theorem cal_183 : CalP 183 := ⟨⟨1336, rfl⟩, by decide +kernel⟩
set_option maxRecDepth 20000 in
theorem cal_184 : CalP 184 := ⟨⟨1332, rfl⟩, by decide +kernel⟩
set_option maxRecDepth 20000 in
theorem cal_185 : CalP 185 := ⟨⟨1340, rfl⟩, by decide +kernel⟩
set_option maxRecDepth 20000 in
theorem cal_186 : CalP 186 := ⟨⟨1344, rfl⟩, by decide +kernel⟩
set_option maxRecDepth 20000 in
theorem cal_187 : CalP 187 := ⟨⟨1352, rfl⟩, by decide +kernel⟩
set_option maxRecDepth 20000 in
theorem cal_188 : CalP 188 := ⟨⟨1348, rfl⟩, by decide +kernel⟩
set_option maxRecDepth 20000 in
theorem cal_189 : CalP 189 := ⟨⟨1356, rfl⟩, by decide +kernel⟩
set_option maxRecDepth 20000 in
theorem cal_190 : CalP 190 := ⟨⟨1360, rfl⟩, by decide +kernel⟩
set_option maxRecDepth 20000 in
theorem cal_191 : CalP 191 := ⟨⟨1373, rfl⟩, by decide +kernel⟩
set_option maxRecDepth 20000 in
theorem cal_192 : CalP 192 := ⟨⟨1369, rfl⟩, by decide +kernel⟩
set_option maxRecDepth 20000 in
theorem cal_193 : CalP 193 := ⟨⟨1364, rfl⟩, by decide +kernel⟩
set_option maxRecDepth 20000 in
theorem cal_194 : CalP 194 := ⟨⟨1377, rfl⟩, by decide +kernel⟩
set_option maxRecDepth 20000 in
theorem cal_195 : CalP 195 := ⟨⟨1381, rfl⟩, by decide +kernel⟩
set_option maxRecDepth 20000 in
theorem cal_196 : CalP 196 := ⟨⟨1389, rfl⟩, by decide +kernel⟩
set_option maxRecDepth 20000 in
theorem cal_197 : CalP 197 := ⟨⟨1385, rfl⟩, by decide +kernel⟩
set_option maxRecDepth 20000 in
theorem cal_198 : CalP 198 := ⟨⟨1393, rfl⟩, by decide +kernel⟩
set_option maxRecDepth 20000 in
theorem cal_199 : CalP 199 := ⟨⟨1397, rfl⟩, by decide +kernel⟩
set_option maxRecDepth 20000 in
theorem cal_200 : CalP 200 := ⟨⟨1401, rfl⟩, by decide +kernel⟩
set_option maxRecDepth 20000 in
theorem cal_201 : CalP 201 := ⟨⟨1409, rfl⟩, by decide +kernel⟩
set_option maxRecDepth 20000 in
theorem cal_202 : CalP 202 := ⟨⟨1413, rfl⟩, by decide +kernel⟩
set_option maxRecDepth 20000 in
theorem cal_203 : CalP 203 := ⟨⟨1425, rfl⟩, by decide +kernel⟩
set_option maxRecDepth 20000 in
theorem cal_204 : CalP 204 := ⟨⟨1429, rfl⟩, by decide +kernel⟩
set_option maxRecDepth 20000 in
theorem cal_205 : CalP 205 := ⟨⟨1421, rfl⟩, by decide +kernel⟩
set_option maxRecDepth 20000 in
theorem cal_206 : CalP 206 := ⟨⟨1441, rfl⟩, by decide +kernel⟩
set_option maxRecDepth 20000 in
theorem cal_207 : CalP 207 := ⟨⟨1437, rfl⟩, by decide +kernel⟩
set_option maxRecDepth 20000 in
theorem cal_208 : CalP 208 := ⟨⟨1433, rfl⟩, by decide +kernel⟩
set_option maxRecDepth 20000 in
theorem cal_209 : CalP 209 := ⟨⟨1449, rfl⟩, by decide +kernel⟩
set_option maxRecDepth 20000 in
theorem cal_210 : CalP 210 := ⟨⟨1445, rfl⟩, by decide +kernel⟩
set_option maxRecDepth 20000 in
theorem cal_211 : CalP 211 := ⟨⟨1417, rfl⟩, by decide +kernel⟩
set_option maxRecDepth 20000 in
theorem cal_212 : CalP 212 := ⟨⟨1453, rfl⟩, by decide +kernel⟩
set_option maxRecDepth 20000 in
theorem cal_213 : CalP 213 := ⟨⟨1457, rfl⟩, by decide +kernel⟩
set_option maxRecDepth 20000 in
theorem cal_214 : CalP 214 := ⟨⟨1461, rfl⟩, by decide +kernel⟩
set_option maxRecDepth 20000 in
theorem cal_215 : CalP 215 := ⟨⟨1405, rfl⟩, by decide +kernel⟩
set_option maxRecDepth 20000 in
theorem cal_216 : CalP 216 := ⟨⟨1465, rfl⟩, by decide +kernel⟩
set_option maxRecDepth 20000 in
theorem cal_217 : CalP 217 := ⟨⟨1473, rfl⟩, by decide +kernel⟩
set_option maxRecDepth 20000 in
theorem cal_218 : CalP 218 := ⟨⟨1469, rfl⟩, by decide +kernel⟩
set_option maxRecDepth 20000 in
theorem cal_219 : CalP 219 := ⟨⟨1477, rfl⟩, by decide +kernel⟩
set_option maxRecDepth 20000 in
theorem cal_220 : CalP 220 := ⟨⟨1481, rfl⟩, by decide +kernel⟩
set_option maxRecDepth 20000 in
theorem cal_221 : CalP 221 := ⟨⟨376, rfl⟩, by decide +kernel⟩
set_option maxRecDepth 20000 in
theorem cal_222 : CalP 222 := ⟨⟨502, rfl⟩, by decide +kernel⟩
set_option maxRecDepth 20000 in
theorem cal_223 : CalP 223 := ⟨⟨512, rfl⟩, by decide +kernel⟩
set_option maxRecDepth 20000 in
theorem cal_224 : CalP 224 := ⟨⟨506, rfl⟩, by decide +kernel⟩
set_option maxRecDepth 20000 in
theorem cal_225 : CalP 225 := ⟨⟨516, rfl⟩, by decide +kernel⟩
set_option maxRecDepth 20000 in
theorem cal_226 : CalP 226 := ⟨⟨522, rfl⟩, by decide +kernel⟩
set_option maxRecDepth 20000 in
theorem cal_227 : CalP 227 := ⟨⟨519, rfl⟩, by decide +kernel⟩
set_option maxRecDepth 20000 in
theorem cal_228 : CalP 228 := ⟨⟨527, rfl⟩, by decide +kernel⟩
def calAll : Nat → Nat → Prop
  | _, 0 => True
  | k, n + 1 => CalP k ∧ calAll (k + 1) n
theorem cal_all0 : calAll 0 229 := ⟨cal_0, cal_1, cal_2, cal_3, cal_4, cal_5, cal_6, cal_7, cal_8, cal_9, cal_10, cal_11, cal_12, cal_13, cal_14, cal_15, cal_16, cal_17, cal_18, cal_19, cal_20, cal_21, cal_22, cal_23, cal_24, cal_25, cal_26, cal_27, cal_28, cal_29, cal_30, cal_31, cal_32, cal_33, cal_34, cal_35, cal_36, cal_37, cal_38, cal_39, cal_40, cal_41, cal_42, cal_43, cal_44, cal_45, cal_46, cal_47, cal_48, cal_49, cal_50, cal_51, cal_52, cal_53, cal_54, cal_55, cal_56, cal_57, cal_58, cal_59, cal_60, cal_61, cal_62, cal_63, cal_64, cal_65, cal_66, cal_67, cal_68, cal_69, cal_70, cal_71, cal_72, cal_73, cal_74, cal_75, cal_76, cal_77, cal_78, cal_79, cal_80, cal_81, cal_82, cal_83, cal_84, cal_85, cal_86, cal_87, cal_88, cal_89, cal_90, cal_91, cal_92, cal_93, cal_94, cal_95, cal_96, cal_97, cal_98, cal_99, cal_100, cal_101, cal_102, cal_103, cal_104, cal_105, cal_106, cal_107, cal_108, cal_109, cal_110, cal_111, cal_112, cal_113, cal_114, cal_115, cal_116, cal_117, cal_118, cal_119, cal_120, cal_121, cal_122, cal_123, cal_124, cal_125, cal_126, cal_127, cal_128, cal_129, cal_130, cal_131, cal_132, cal_133, cal_134, cal_135, cal_136, cal_137, cal_138, cal_139, cal_140, cal_141, cal_142, cal_143, cal_144, cal_145, cal_146, cal_147, cal_148, cal_149, cal_150, cal_151, cal_152, cal_153, cal_154, cal_155, cal_156, cal_157, cal_158, cal_159, cal_160, cal_161, cal_162, cal_163, cal_164, cal_165, cal_166, cal_167, cal_168, cal_169, cal_170, cal_171, cal_172, cal_173, cal_174, cal_175, cal_176, cal_177, cal_178, cal_179, cal_180, cal_181, cal_182, cal_183, cal_184, cal_185, cal_186, cal_187, cal_188, cal_189, cal_190, cal_191, cal_192, cal_193, cal_194, cal_195, cal_196, cal_197, cal_198, cal_199, cal_200, cal_201, cal_202, cal_203, cal_204, cal_205, cal_206, cal_207, cal_208, cal_209, cal_210, cal_211, cal_212, cal_213, cal_214, cal_215, cal_216, cal_217, cal_218, cal_219, cal_220, cal_221, cal_222, cal_223, cal_224, cal_225, cal_226, cal_227, cal_228, trivial⟩
theorem calAll_get : ∀ (n k a : Nat), calAll k n → a < n → CalP (k + a)
  | 0, k, a, _, h => absurd h (Nat.not_lt_zero a)
  | n + 1, k, 0, h, _ => h.1
  | n + 1, k, a + 1, h, ha => by
    have := calAll_get n (k + 1) a h.2 (by omega)
    rwa [show k + 1 + a = k + (a + 1) by omega] at this
theorem cal_all {a : Nat} (h : a < 229) : CalP a := by
  have := calAll_get 229 0 a cal_all0 h
  rwa [Nat.zero_add] at this
