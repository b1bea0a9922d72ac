/-! SOUNDNESS of the small machine, 19: every call, the law -/
/-- all rows of the tables, in their order -/
def mw_All2 : Nat → List mw_I → List (Option mv_M) → Prop
  | n, I :: r, some M :: r2 => ((n = 28 ∨ n = 122 ∨ n = 125 ∨ n = 218) ∨ (mw_okF I M [] none ∧ plainFor I.1 = true)) ∧ mw_All2 (n + 1) r r2
  | _, _, _ => True
theorem mw_All2_get : ∀ {n : Nat} {l1 : List mw_I} {l2 : List (Option mv_M)} {k : Nat} {I : mw_I} {M : mv_M}, (∀ q ∈ l2, q ≠ none) → mw_All2 n l1 l2 → l1[k]? = some I → l2[k]? = some (some M) → ((n + k = 28 ∨ n + k = 122 ∨ n + k = 125 ∨ n + k = 218) ∨ (mw_okF I M [] none ∧ plainFor I.1 = true))
  | n, [], _, k, I, M, _, _, h, _ => by simp at h
  | n, _ :: _, [], k, I, M, _, _, _, h => by simp at h
  | n, J :: r, none :: r2, k, I, M, hn, _, _, _ => absurd rfl (hn none List.mem_cons_self)
  | n, J :: r, some N :: r2, 0, I, M, _, h, h1, h2 => by
    cases h1
    cases h2
    exact h.1
  | n, J :: r, some N :: r2, k + 1, I, M, hn, h, h1, h2 => by
    have := mw_All2_get (n := n + 1) (k := k) (fun q hq => hn q (List.mem_cons_of_mem _ hq)) h.2 h1 h2
    rw [show n + 1 + k = n + (k + 1) by omega] at this
    exact this
set_option maxRecDepth 100000 in
theorem mw_rows : mw_All2 0 mw_infol mv_tabl := ⟨Or.inr ⟨mO_0, by decide +kernel⟩, ⟨Or.inr ⟨mO_1, by decide +kernel⟩, ⟨Or.inr ⟨mO_2, by decide +kernel⟩, ⟨Or.inr ⟨mO_3, by decide +kernel⟩, ⟨Or.inr ⟨mO_4, by decide +kernel⟩, ⟨Or.inr ⟨mO_5, by decide +kernel⟩, ⟨Or.inr ⟨mO_6, by decide +kernel⟩, ⟨Or.inr ⟨mO_7, by decide +kernel⟩, ⟨Or.inr ⟨mO_8, by decide +kernel⟩, ⟨Or.inr ⟨mO_9, by decide +kernel⟩, ⟨Or.inr ⟨mO_10, by decide +kernel⟩, ⟨Or.inr ⟨mO_11, by decide +kernel⟩, ⟨Or.inr ⟨mO_12, by decide +kernel⟩, ⟨Or.inr ⟨mO_13, by decide +kernel⟩, ⟨Or.inr ⟨mO_14, by decide +kernel⟩, ⟨Or.inr ⟨mO_15, by decide +kernel⟩, ⟨Or.inr ⟨mO_16, by decide +kernel⟩, ⟨Or.inr ⟨mO_17, by decide +kernel⟩, ⟨Or.inr ⟨mO_18, by decide +kernel⟩, ⟨Or.inr ⟨mO_19, by decide +kernel⟩, ⟨Or.inr ⟨mO_20, by decide +kernel⟩, ⟨Or.inr ⟨mO_21, by decide +kernel⟩, ⟨Or.inr ⟨mO_22, by decide +kernel⟩, ⟨Or.inr ⟨mO_23, by decide +kernel⟩, ⟨Or.inr ⟨mO_24, by decide +kernel⟩, ⟨Or.inr ⟨mO_25, by decide +kernel⟩, ⟨Or.inr ⟨mO_26, by decide +kernel⟩, ⟨Or.inr ⟨mO_27, by decide +kernel⟩, ⟨Or.inl (by decide), ⟨Or.inr ⟨mO_29, by decide +kernel⟩, ⟨Or.inr ⟨mO_30, by decide +kernel⟩, ⟨Or.inr ⟨mO_31, by decide +kernel⟩, ⟨Or.inr ⟨mO_32, by decide +kernel⟩, ⟨Or.inr ⟨mO_33, by decide +kernel⟩, ⟨Or.inr ⟨mO_34, by decide +kernel⟩, ⟨Or.inr ⟨mO_35, by decide +kernel⟩, ⟨Or.inr ⟨mO_36, by decide +kernel⟩, ⟨Or.inr ⟨mO_37, by decide +kernel⟩, ⟨Or.inr ⟨mO_38, by decide +kernel⟩, ⟨Or.inr ⟨mO_39, by decide +kernel⟩, ⟨Or.inr ⟨mO_40, by decide +kernel⟩, ⟨Or.inr ⟨mO_41, by decide +kernel⟩, ⟨Or.inr ⟨mO_42, by decide +kernel⟩, ⟨Or.inr ⟨mO_43, by decide +kernel⟩, ⟨Or.inr ⟨mO_44, by decide +kernel⟩, ⟨Or.inr ⟨mO_45, by decide +kernel⟩, ⟨Or.inr ⟨mO_46, by decide +kernel⟩, ⟨Or.inr ⟨mO_47, by decide +kernel⟩, ⟨Or.inr ⟨mO_48, by decide +kernel⟩, ⟨Or.inr ⟨mO_49, by decide +kernel⟩, ⟨Or.inr ⟨mO_50, by decide +kernel⟩, ⟨Or.inr ⟨mO_51, by decide +kernel⟩, ⟨Or.inr ⟨mO_52, by decide +kernel⟩, ⟨Or.inr ⟨mO_53, by decide +kernel⟩, ⟨Or.inr ⟨mO_54, by decide +kernel⟩, ⟨Or.inr ⟨mO_55, by decide +kernel⟩, ⟨Or.inr ⟨mO_56, by decide +kernel⟩, ⟨Or.inr ⟨mO_57, by decide +kernel⟩, ⟨Or.inr ⟨mO_58, by decide +kernel⟩, ⟨Or.inr ⟨mO_59, by decide +kernel⟩, ⟨Or.inr ⟨mO_60, by decide +kernel⟩, ⟨Or.inr ⟨mO_61, by decide +kernel⟩, ⟨Or.inr ⟨mO_62, by decide +kernel⟩, ⟨Or.inr ⟨mO_63, by decide +kernel⟩, ⟨Or.inr ⟨mO_64, by decide +kernel⟩, ⟨Or.inr ⟨mO_65, by decide +kernel⟩, ⟨Or.inr ⟨mO_66, by decide +kernel⟩, ⟨Or.inr ⟨mO_67, by decide +kernel⟩, ⟨Or.inr ⟨mO_68, by decide +kernel⟩, ⟨Or.inr ⟨mO_69, by decide +kernel⟩, ⟨Or.inr ⟨mO_70, by decide +kernel⟩, ⟨Or.inr ⟨mO_71, by decide +kernel⟩, ⟨Or.inr ⟨mO_72, by decide +kernel⟩, ⟨Or.inr ⟨mO_73, by decide +kernel⟩, ⟨Or.inr ⟨mO_74, by decide +kernel⟩, ⟨Or.inr ⟨mO_75, by decide +kernel⟩, ⟨Or.inr ⟨mO_76, by decide +kernel⟩, ⟨Or.inr ⟨mO_77, by decide +kernel⟩, ⟨Or.inr ⟨mO_78, by decide +kernel⟩, ⟨Or.inr ⟨mO_79, by decide +kernel⟩, ⟨Or.inr ⟨mO_80, by decide +kernel⟩, ⟨Or.inr ⟨mO_81, by decide +kernel⟩, ⟨Or.inr ⟨mO_82, by decide +kernel⟩, ⟨Or.inr ⟨mO_83, by decide +kernel⟩, ⟨Or.inr ⟨mO_84, by decide +kernel⟩, ⟨Or.inr ⟨mO_85, by decide +kernel⟩, ⟨Or.inr ⟨mO_86, by decide +kernel⟩, ⟨Or.inr ⟨mO_87, by decide +kernel⟩, ⟨Or.inr ⟨mO_88, by decide +kernel⟩, ⟨Or.inr ⟨mO_89, by decide +kernel⟩, ⟨Or.inr ⟨mO_90, by decide +kernel⟩, ⟨Or.inr ⟨mO_91, by decide +kernel⟩, ⟨Or.inr ⟨mO_92, by decide +kernel⟩, ⟨Or.inr ⟨mO_93, by decide +kernel⟩, ⟨Or.inr ⟨mO_94, by decide +kernel⟩, ⟨Or.inr ⟨mO_95, by decide +kernel⟩, ⟨Or.inr ⟨mO_96, by decide +kernel⟩, ⟨Or.inr ⟨mO_97, by decide +kernel⟩, ⟨Or.inr ⟨mO_98, by decide +kernel⟩, ⟨Or.inr ⟨mO_99, by decide +kernel⟩, ⟨Or.inr ⟨mO_100, by decide +kernel⟩, ⟨Or.inr ⟨mO_101, by decide +kernel⟩, ⟨Or.inr ⟨mO_102, by decide +kernel⟩, ⟨Or.inr ⟨mO_103, by decide +kernel⟩, ⟨Or.inr ⟨mO_104, by decide +kernel⟩, ⟨Or.inr ⟨mO_105, by decide +kernel⟩, ⟨Or.inr ⟨mO_106, by decide +kernel⟩, ⟨Or.inr ⟨mO_107, by decide +kernel⟩, ⟨Or.inr ⟨mO_108, by decide +kernel⟩, ⟨Or.inr ⟨mO_109, by decide +kernel⟩, ⟨Or.inr ⟨mO_110, by decide +kernel⟩, ⟨Or.inr ⟨mO_111, by decide +kernel⟩, ⟨Or.inr ⟨mO_112, by decide +kernel⟩, ⟨Or.inr ⟨mO_113, by decide +kernel⟩, ⟨Or.inr ⟨mO_114, by decide +kernel⟩, ⟨Or.inr ⟨mO_115, by decide +kernel⟩, ⟨Or.inr ⟨mO_116, by decide +kernel⟩, ⟨Or.inr ⟨mO_117, by decide +kernel⟩, ⟨Or.inr ⟨mO_118, by decide +kernel⟩, ⟨Or.inr ⟨mO_119, by decide +kernel⟩, ⟨Or.inr ⟨mO_120, by decide +kernel⟩, ⟨Or.inr ⟨mO_121, by decide +kernel⟩, ⟨Or.inl (by decide), ⟨Or.inr ⟨mO_123, by decide +kernel⟩, ⟨Or.inr ⟨mO_124, by decide +kernel⟩, ⟨Or.inl (by decide), ⟨Or.inr ⟨mO_126, by decide +kernel⟩, ⟨Or.inr ⟨mO_127, by decide +kernel⟩, ⟨Or.inr ⟨mO_128, by decide +kernel⟩, ⟨Or.inr ⟨mO_129, by decide +kernel⟩, ⟨Or.inr ⟨mO_130, by decide +kernel⟩, ⟨Or.inr ⟨mO_131, by decide +kernel⟩, ⟨Or.inr ⟨mO_132, by decide +kernel⟩, ⟨Or.inr ⟨mO_133, by decide +kernel⟩, ⟨Or.inr ⟨mO_134, by decide +kernel⟩, ⟨Or.inr ⟨mO_135, by decide +kernel⟩, ⟨Or.inr ⟨mO_136, by decide +kernel⟩, ⟨Or.inr ⟨mO_137, by decide +kernel⟩, ⟨Or.inr ⟨mO_138, by decide +kernel⟩, ⟨Or.inr ⟨mO_139, by decide +kernel⟩, ⟨Or.inr ⟨mO_140, by decide +kernel⟩, ⟨Or.inr ⟨mO_141, by decide +kernel⟩, ⟨Or.inr ⟨mO_142, by decide +kernel⟩, ⟨Or.inr ⟨mO_143, by decide +kernel⟩, ⟨Or.inr ⟨mO_144, by decide +kernel⟩, ⟨Or.inr ⟨mO_145, by decide +kernel⟩, ⟨Or.inr ⟨mO_146, by decide +kernel⟩, ⟨Or.inr ⟨mO_147, by decide +kernel⟩, ⟨Or.inr ⟨mO_148, by decide +kernel⟩, ⟨Or.inr ⟨mO_149, by decide +kernel⟩, ⟨Or.inr ⟨mO_150, by decide +kernel⟩, ⟨Or.inr ⟨mO_151, by decide +kernel⟩, ⟨Or.inr ⟨mO_152, by decide +kernel⟩, ⟨Or.inr ⟨mO_153, by decide +kernel⟩, ⟨Or.inr ⟨mO_154, by decide +kernel⟩, ⟨Or.inr ⟨mO_155, by decide +kernel⟩, ⟨Or.inr ⟨mO_156, by decide +kernel⟩, ⟨Or.inr ⟨mO_157, by decide +kernel⟩, ⟨Or.inr ⟨mO_158, by decide +kernel⟩, ⟨Or.inr ⟨mO_159, by decide +kernel⟩, ⟨Or.inr ⟨mO_160, by decide +kernel⟩, ⟨Or.inr ⟨mO_161, by decide +kernel⟩, ⟨Or.inr ⟨mO_162, by decide +kernel⟩, ⟨Or.inr ⟨mO_163, by decide +kernel⟩, ⟨Or.inr ⟨mO_164, by decide +kernel⟩, ⟨Or.inr ⟨mO_165, by decide +kernel⟩, ⟨Or.inr ⟨mO_166, by decide +kernel⟩, ⟨Or.inr ⟨mO_167, by decide +kernel⟩, ⟨Or.inr ⟨mO_168, by decide +kernel⟩, ⟨Or.inr ⟨mO_169, by decide +kernel⟩, ⟨Or.inr ⟨mO_170, by decide +kernel⟩, ⟨Or.inr ⟨mO_171, by decide +kernel⟩, ⟨Or.inr ⟨mO_172, by decide +kernel⟩, ⟨Or.inr ⟨mO_173, by decide +kernel⟩, ⟨Or.inr ⟨mO_174, by decide +kernel⟩, ⟨Or.inr ⟨mO_175, by decide +kernel⟩, ⟨Or.inr ⟨mO_176, by decide +kernel⟩, ⟨Or.inr ⟨mO_177, by decide +kernel⟩, ⟨Or.inr ⟨mO_178, by decide +kernel⟩, ⟨Or.inr ⟨mO_179, by decide +kernel⟩, ⟨Or.inr ⟨mO_180, by decide +kernel⟩, ⟨Or.inr ⟨mO_181, by decide +kernel⟩, ⟨Or.inr ⟨mO_182, by decide +kernel⟩, ⟨Or.inr ⟨mO_183, by decide +kernel⟩, ⟨Or.inr ⟨mO_184, by decide +kernel⟩, ⟨Or.inr ⟨mO_185, by decide +kernel⟩, ⟨Or.inr ⟨mO_186, by decide +kernel⟩, ⟨Or.inr ⟨mO_187, by decide +kernel⟩, ⟨Or.inr ⟨mO_188, by decide +kernel⟩, ⟨Or.inr ⟨mO_189, by decide +kernel⟩, ⟨Or.inr ⟨mO_190, by decide +kernel⟩, ⟨Or.inr ⟨mO_191, by decide +kernel⟩, ⟨Or.inr ⟨mO_192, by decide +kernel⟩, ⟨Or.inr ⟨mO_193, by decide +kernel⟩, ⟨Or.inr ⟨mO_194, by decide +kernel⟩, ⟨Or.inr ⟨mO_195, by decide +kernel⟩, ⟨Or.inr ⟨mO_196, by decide +kernel⟩, ⟨Or.inr ⟨mO_197, by decide +kernel⟩, ⟨Or.inr ⟨mO_198, by decide +kernel⟩, ⟨Or.inr ⟨mO_199, by decide +kernel⟩, ⟨Or.inr ⟨mO_200, by decide +kernel⟩, ⟨Or.inr ⟨mO_201, by decide +kernel⟩, ⟨Or.inr ⟨mO_202, by decide +kernel⟩, ⟨Or.inr ⟨mO_203, by decide +kernel⟩, ⟨Or.inr ⟨mO_204, by decide +kernel⟩, ⟨Or.inr ⟨mO_205, by decide +kernel⟩, ⟨Or.inr ⟨mO_206, by decide +kernel⟩, ⟨Or.inr ⟨mO_207, by decide +kernel⟩, ⟨Or.inr ⟨mO_208, by decide +kernel⟩, ⟨Or.inr ⟨mO_209, by decide +kernel⟩, ⟨Or.inr ⟨mO_210, by decide +kernel⟩, ⟨Or.inr ⟨mO_211, by decide +kernel⟩, ⟨Or.inr ⟨mO_212, by decide +kernel⟩, ⟨Or.inr ⟨mO_213, by decide +kernel⟩, ⟨Or.inr ⟨mO_214, by decide +kernel⟩, ⟨Or.inr ⟨mO_215, by decide +kernel⟩, ⟨Or.inr ⟨mO_216, by decide +kernel⟩, ⟨Or.inr ⟨mO_217, by decide +kernel⟩, ⟨Or.inl (by decide), trivial⟩⟩⟩⟩⟩⟩⟩⟩⟩⟩⟩⟩⟩⟩⟩⟩⟩⟩⟩⟩⟩⟩⟩⟩⟩⟩⟩⟩⟩⟩⟩⟩⟩⟩⟩⟩⟩⟩⟩⟩⟩⟩⟩⟩⟩⟩⟩⟩⟩⟩⟩⟩⟩⟩⟩⟩⟩⟩⟩⟩⟩⟩⟩⟩⟩⟩⟩⟩⟩⟩⟩⟩⟩⟩⟩⟩⟩⟩⟩⟩⟩⟩⟩⟩⟩⟩⟩⟩⟩⟩⟩⟩⟩⟩⟩⟩⟩⟩⟩⟩⟩⟩⟩⟩⟩⟩⟩⟩⟩⟩⟩⟩⟩⟩⟩⟩⟩⟩⟩⟩⟩⟩⟩⟩⟩⟩⟩⟩⟩⟩⟩⟩⟩⟩⟩⟩⟩⟩⟩⟩⟩⟩⟩⟩⟩⟩⟩⟩⟩⟩⟩⟩⟩⟩⟩⟩⟩⟩⟩⟩⟩⟩⟩⟩⟩⟩⟩⟩⟩⟩⟩⟩⟩⟩⟩⟩⟩⟩⟩⟩⟩⟩⟩⟩⟩⟩⟩⟩⟩⟩⟩⟩⟩⟩⟩⟩⟩⟩⟩⟩⟩⟩⟩⟩⟩⟩⟩⟩⟩⟩⟩⟩⟩⟩⟩⟩⟩⟩⟩
theorem mw_rowsN : ∀ q ∈ mv_tabl, q ≠ none := by
  intro q hq e
  subst e
  have h : (mv_tabl.all fun q => q.isSome) = true := by decide
  have := List.all_eq_true.mp h none hq
  cases this
theorem mO_get {M : Nat} {I : mw_I} {MM : mv_M} (h1 : mw_info M = some I) (h2 : mv_tab M = some MM) (n1 : M ≠ 28) (n2 : M ≠ 122) (n3 : M ≠ 125) (n4 : M ≠ 218) : mw_okF I MM [] none ∧ plainFor I.1 = true := by
  have h3 : mv_tabl[M]? = some (some MM) := by
    unfold mv_tab at h2
    cases e : mv_tabl[M]? with
    | none => rw [e] at h2; cases h2
    | some q =>
      rw [e] at h2
      exact congrArg some h2
  rcases mw_All2_get mw_rowsN mw_rows h1 h3 with h | h
  · omega
  · exact h
theorem mw_CCd {l : Launch} {D : va_G} {ac sa : Nat → Nat} {b L : Nat} {xs : Nat → Int32} {base : Nat} (hl : l.stackTraces = false) : ∀ d, mw_CC l D ac sa b L xs base d (mv_cax d)
  | 0 => fun M as σ r σ' h => by cases h
  | d + 1 => fun M as σ r σ' h => by
    have hpre := mn_cax _ _ _ _ _ _ h
    refine ⟨hpre, fun I hI => ?_⟩
    unfold mv_cax at h
    split at h
    · rename_i MM hMM
      split at h
      · rename_i hwd
        obtain ⟨nf, h⟩ := mv_lim_some h
        refine ⟨fun n1 n2 n3 n4 => ?_, fun hs => ?_, fun hs => ?_⟩
        · obtain ⟨hF, hy⟩ := mO_get hI hMM n1 n2 n3 n4
          exact mw_okOfN hF hy h (mw_CCd hl d) (by rw [← hF.1]; exact hwd) hpre
        · rcases hs with rfl | rfl
          · cases mI_125_e.symm.trans hI
            cases (rfl : mv_tab 125 = some mm_125).symm.trans hMM
            exact mw_okWOfN mO_125 (by decide +kernel) h (mw_CCd hl d) hwd hpre (fun p e R s m args below meth c rt Q X htab => mw_cat125 X htab)
          · cases mI_218_e.symm.trans hI
            cases (rfl : mv_tab 218 = some mm_218).symm.trans hMM
            exact mw_okWOfN mO_218 (by decide +kernel) h (mw_CCd hl d) hwd hpre (fun p e R s m args below meth c rt Q X htab => mw_cat218 X htab)
        · rcases hs with rfl | rfl
          · cases mI_28_e.symm.trans hI
            cases (rfl : mv_tab 28 = some mm_28).symm.trans hMM
            exact mw_okTOfN mO_28 (Or.inr rfl) (by decide +kernel) h (mw_CCd hl d) hwd hpre (fun p e s m args below meth c rt X hlk hout => mw_thr28 X hl hlk hout)
          · cases mI_122_e.symm.trans hI
            cases (rfl : mv_tab 122 = some mm_122).symm.trans hMM
            exact mw_okTOfN mO_122 (Or.inl rfl) (by decide +kernel) h (mw_CCd hl d) hwd hpre (fun p e s m args below meth c rt X hlk hout => mw_thr122 X hl hlk hout)
      · cases h
    · cases h
