-- 95g: all of them
theorem ok_229 : chkM 229 ct_229 = true := chkM_app ok_229_0 (chkM_app ok_229_1 (chkM_app ok_229_2 (chkM_app ok_229_3 (chkM_app ok_229_4 (chkM_app ok_229_5 (chkM_app ok_229_6 (chkM_app ok_229_7 (chkM_app ok_229_8 (chkM_app ok_229_9 (chkM_app ok_229_10 (chkM_app ok_229_11 (chkM_app ok_229_12 (chkM_app ok_229_13 (chkM_app ok_229_14 (chkM_app ok_229_15 (chkM_app ok_229_16 (chkM_app ok_229_17 (chkM_app ok_229_18 (chkM_app ok_229_19 (ok_229_20))))))))))))))))))))
def okAll : Nat → List (List (Nat × AI)) → Prop
  | _, [] => True
  | k, l :: r => chkM k l = true ∧ okAll (k + 1) r
theorem ok_all : okAll 0 CT := ⟨ok_0, ok_1, ok_2, ok_3, ok_4, ok_5, ok_6, ok_7, ok_8, ok_9, ok_10, ok_11, ok_12, ok_13, ok_14, ok_15, ok_16, ok_17, ok_18, ok_19, ok_20, ok_21, ok_22, ok_23, ok_24, ok_25, ok_26, ok_27, ok_28, ok_29, ok_30, ok_31, ok_32, ok_33, ok_34, ok_35, ok_36, ok_37, ok_38, ok_39, ok_40, ok_41, ok_42, ok_43, ok_44, ok_45, ok_46, ok_47, ok_48, ok_49, ok_50, ok_51, ok_52, ok_53, ok_54, ok_55, ok_56, ok_57, ok_58, ok_59, ok_60, ok_61, ok_62, ok_63, ok_64, ok_65, ok_66, ok_67, ok_68, ok_69, ok_70, ok_71, ok_72, ok_73, ok_74, ok_75, ok_76, ok_77, ok_78, ok_79, ok_80, ok_81, ok_82, ok_83, ok_84, ok_85, ok_86, ok_87, ok_88, ok_89, ok_90, ok_91, ok_92, ok_93, ok_94, ok_95, ok_96, ok_97, ok_98, ok_99, ok_100, ok_101, ok_102, ok_103, ok_104, ok_105, ok_106, ok_107, ok_108, ok_109, ok_110, ok_111, ok_112, ok_113, ok_114, ok_115, ok_116, ok_117, ok_118, ok_119, ok_120, ok_121, ok_122, ok_123, ok_124, ok_125, ok_126, ok_127, ok_128, ok_129, ok_130, ok_131, ok_132, ok_133, ok_134, ok_135, ok_136, ok_137, ok_138, ok_139, ok_140, ok_141, ok_142, ok_143, ok_144, ok_145, ok_146, ok_147, ok_148, ok_149, ok_150, ok_151, ok_152, ok_153, ok_154, ok_155, ok_156, ok_157, ok_158, ok_159, ok_160, ok_161, ok_162, ok_163, ok_164, ok_165, ok_166, ok_167, ok_168, ok_169, ok_170, ok_171, ok_172, ok_173, ok_174, ok_175, ok_176, ok_177, ok_178, ok_179, ok_180, ok_181, ok_182, ok_183, ok_184, ok_185, ok_186, ok_187, ok_188, ok_189, ok_190, ok_191, ok_192, ok_193, ok_194, ok_195, ok_196, ok_197, ok_198, ok_199, ok_200, ok_201, ok_202, ok_203, ok_204, ok_205, ok_206, ok_207, ok_208, ok_209, ok_210, ok_211, ok_212, ok_213, ok_214, ok_215, ok_216, ok_217, ok_218, ok_219, ok_220, ok_221, ok_222, ok_223, ok_224, ok_225, ok_226, ok_227, ok_228, ok_229, trivial⟩
theorem okAll_get : ∀ (L : List (List (Nat × AI))) (k M : Nat) (l : List (Nat × AI)), okAll k L → L[M]? = some l → chkM (k + M) l = true
  | [], k, M, l, _, h => by simp at h
  | x :: r, k, 0, l, h, hl => by
    obtain rfl : x = l := by simpa using hl
    exact h.1
  | x :: r, k, M + 1, l, h, hl => by
    have := okAll_get r (k + 1) M l h.2 (by simpa using hl)
    rwa [show k + 1 + M = k + (M + 1) by omega] at this
theorem chk_at {M pc : Nat} {ai : AI} (h : codeAt M pc = some ai) : chkI M pc ai = true := by
  unfold codeAt at h
  obtain ⟨r, hr, rfl⟩ := Option.map_eq_some_iff.mp h
  have hm := List.mem_of_find?_eq_some hr
  have hp : (r.1 == pc) = true := List.find?_some (p := fun r : Nat × AI => r.1 == pc) hr
  have hpc : r.1 = pc := by simpa using hp
  cases hl : CT[M]? with
  | none =>
    rw [List.getD_eq_getElem?_getD, hl] at hm
    cases hm
  | some l =>
    rw [List.getD_eq_getElem?_getD, hl] at hm
    have h0 := okAll_get CT 0 M l ok_all hl
    rw [Nat.zero_add] at h0
    have h1 := List.all_eq_true.mp h0 r hm
    rw [← hpc]
    exact h1
theorem w_ob1 : word 107 (.instanceMethod Lib.objectInit) = true := by decide +kernel
theorem w_ob2 : word 108 (.code Lib.objectInit ⟨#[0xb1]⟩ 1 none) = true := by decide +kernel
theorem w_ac1 : word 415 (.native arraycopyName) = true := by decide +kernel
theorem w_ac2 : word 414 (.static arraycopyName) = true := by decide +kernel
theorem w_ac3 : word 95 (.initialized "java/lang/System") = true := by decide +kernel
theorem w_mm1 : word 818 (.static Lib.Math.min.name) = true := by decide +kernel
theorem w_mm2 : word 100 (.initialized "java/lang/Math") = true := by decide +kernel
theorem w_mm3 : word 819 (.code Lib.Math.min.name Lib.Math.min.code 2 (some .int)) = true := by decide +kernel
