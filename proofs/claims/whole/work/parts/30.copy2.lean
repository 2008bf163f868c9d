section
variable {d : Nat} {mi : Nat → Nat → Int32} {ml : Nat → Nat → Int64}
def cpu (f : Nat → Int32) (sp dp k : Nat) : Nat → Int32 := fun c => if dp ≤ c ∧ c < dp + k then f (sp + (c - dp)) else f c
def cpd (f : Nat → Int32) (sp dp n k : Nat) : Nat → Int32 := fun c => if dp + (n - k) ≤ c ∧ c < dp + n then f (sp + (c - dp)) else f c
theorem cpu_0 {f : Nat → Int32} {sp dp : Nat} : cpu f sp dp 0 = f := by funext c; unfold cpu; rw [if_neg (by omega)]
theorem cpd_0 {f : Nat → Int32} {sp dp n : Nat} : cpd f sp dp n 0 = f := by funext c; unfold cpd; rw [if_neg (by omega)]
theorem cpu_n {f : Nat → Int32} {sp dp n : Nat} : cpu f sp dp n = va_cpy f f sp dp n := rfl
theorem cpd_n {f : Nat → Int32} {sp dp n : Nat} : cpd f sp dp n n = va_cpy f f sp dp n := by
  funext c
  unfold cpd va_cpy
  rw [Nat.sub_self, Nat.add_zero]
theorem cpu_s {f : Nat → Int32} {sp dp k : Nat} (h : ¬ (dp ≤ sp + k ∧ sp + k < dp + k)) : upd (cpu f sp dp k) (dp + k) (cpu f sp dp k (sp + k)) = cpu f sp dp (k + 1) := by
  have e : cpu f sp dp k (sp + k) = f (sp + k) := by unfold cpu; rw [if_neg h]
  rw [e]
  funext c
  unfold upd cpu
  by_cases h1 : c = dp + k
  · rw [if_pos h1, if_pos (by omega)]
    congr 1
    omega
  · rw [if_neg h1]
    by_cases h2 : dp ≤ c ∧ c < dp + k
    · rw [if_pos h2, if_pos (by omega)]
    · rw [if_neg h2, if_neg (by omega)]
theorem cpd_s {f : Nat → Int32} {sp dp n k : Nat} (hk : k < n) (h : ¬ (dp + (n - k) ≤ sp + (n - 1 - k) ∧ sp + (n - 1 - k) < dp + n)) : upd (cpd f sp dp n k) (dp + (n - 1 - k)) (cpd f sp dp n k (sp + (n - 1 - k))) = cpd f sp dp n (k + 1) := by
  have e : cpd f sp dp n k (sp + (n - 1 - k)) = f (sp + (n - 1 - k)) := by unfold cpd; rw [if_neg h]
  rw [e]
  funext c
  unfold upd cpd
  by_cases h1 : c = dp + (n - 1 - k)
  · rw [if_pos h1, if_pos (by omega)]
    congr 1
    omega
  · rw [if_neg h1]
    by_cases h2 : dp + (n - k) ≤ c ∧ c < dp + n
    · rw [if_pos h2, if_pos (by omega)]
    · rw [if_neg h2, if_neg (by omega)]
theorem z60 {s i t : Nat} : 60 * nI s + nI i + nI t = nI (s * 60 + i + t) := by rw [y60, nI_add]
theorem l152u {a i b j n : Nat} (ha : a * 60 + i + n ≤ 480) (hb : b * 60 + j + n ≤ 480) (hd : ∀ k, k < n → ¬ (b * 60 + j ≤ a * 60 + i + k ∧ a * 60 + i + k < b * 60 + j + k)) : ∀ (r k : Nat) (l8 : Option Value), k + r = n → vh_E 152 143 [some (.ref 88), some (.int (nI a)), some (.int (nI i)), some (.int (nI b)), some (.int (nI j)), some (.int (nI n)), some (.int 1), some (.int (nI k)), l8] [] (vh_K d (vh_sA mi 98 (cpu (mi 98) (a * 60 + i) (b * 60 + j) k)) ml) = some (some (.int (nI n)), vh_K d (vh_sA mi 98 (cpu (mi 98) (a * 60 + i) (b * 60 + j) n)) ml) := by
  intro r
  induction r with
  | zero =>
    intro k l8 hk
    have hk : k = n := hk
    subst hk
    rw [e152_143]
    simp only [e152_0, e152_1, e152_2, e152_5, e152_6, e152_9, e152_12, e152_13, e152_16, e152_19, e152_21, e152_22, e152_23, e152_24, e152_27, e152_28, e152_31, e152_32, e152_33, e152_36, e152_37, e152_40, e152_41, e152_42, e152_45, e152_46, e152_47, e152_50, e152_51, e152_52, e152_55, e152_56, e152_57, e152_58, e152_61, e152_62, e152_63, e152_66, e152_67, e152_68, e152_71, e152_72, e152_73, e152_76, e152_78, e152_81, e152_83, e152_86, e152_87, e152_88, e152_90, e152_91, e152_92, e152_93, e152_96, e152_97, e152_98, e152_99, e152_100, e152_103, e152_105, e152_106, e152_108, e152_109, e152_110, e152_111, e152_114, e152_115, e152_116, e152_117, e152_118, e152_121, e152_122, e152_123, e152_126, e152_127, e152_128, e152_130, e152_133, e152_134, e152_137, e152_138, e152_140, e152_141, e152_145, e152_147, e152_150, e152_152, e152_155, e152_157, e152_160, e152_162, e152_163, e152_164, e152_166, e152_167, e152_169, e152_170, e152_173, e152_175, e152_176, e152_177, e152_179, e152_180, e152_182, e152_183, e152_184, e152_187, e152_189, e152_190, e152_191, e152_192, e152_193, e152_195, e152_196, e152_197, e152_198, e152_201, e152_204, e152_206, nI_le (Nat.le_refl k) (show k < 2 ^ 31 by omega), if_true]
  | succ r ih =>
    intro k l8 hk
    have hx1 : vh_ixa 98 (nI (a * 60 + i + k)) = true := ixa (by rw [kd98]; omega) (by omega)
    have hc1 : (nI (a * 60 + i + k)).toNatClampNeg = a * 60 + i + k := nI_clamp (by omega)
    have hx2 : vh_ixa 98 (nI (b * 60 + j + k)) = true := ixa (by rw [kd98]; omega) (by omega)
    have hc2 : (nI (b * 60 + j + k)).toNatClampNeg = b * 60 + j + k := nI_clamp (by omega)
    rw [e152_143]
    simp only [e152_0, e152_1, e152_2, e152_5, e152_6, e152_9, e152_12, e152_13, e152_16, e152_19, e152_21, e152_22, e152_23, e152_24, e152_27, e152_28, e152_31, e152_32, e152_33, e152_36, e152_37, e152_40, e152_41, e152_42, e152_45, e152_46, e152_47, e152_50, e152_51, e152_52, e152_55, e152_56, e152_57, e152_58, e152_61, e152_62, e152_63, e152_66, e152_67, e152_68, e152_71, e152_72, e152_73, e152_76, e152_78, e152_81, e152_83, e152_86, e152_87, e152_88, e152_90, e152_91, e152_92, e152_93, e152_96, e152_97, e152_98, e152_99, e152_100, e152_103, e152_105, e152_106, e152_108, e152_109, e152_110, e152_111, e152_114, e152_115, e152_116, e152_117, e152_118, e152_121, e152_122, e152_123, e152_126, e152_127, e152_128, e152_130, e152_133, e152_134, e152_137, e152_138, e152_140, e152_141, e152_145, e152_147, e152_150, e152_152, e152_155, e152_157, e152_160, e152_162, e152_163, e152_164, e152_166, e152_167, e152_169, e152_170, e152_173, e152_175, e152_176, e152_177, e152_179, e152_180, e152_182, e152_183, e152_184, e152_187, e152_189, e152_190, e152_191, e152_192, e152_193, e152_195, e152_196, e152_197, e152_198, e152_201, e152_204, e152_206, ok88, ok98, rf88_11, z60, hx1, hc1, hx2, hc2, nI_1, if_neg (nI_ge (show k < n by omega) (show n < 2 ^ 31 by omega)), show ¬ (1 : Int32) = 0 from by decide, if_false, sAn, sAs, sAA, ups, upn, bkv_n, hlv_n, ne_eq, Nat.reduceEqDiff, Nat.reduceLT, Nat.reduceLeDiff, or_true, true_or, not_false_eq_true]
    rw [cpu_s (hd k (by omega))]
    exact ih (k + 1) _ (by omega)
theorem l152d {a i b j n : Nat} (ha : a * 60 + i + n ≤ 480) (hb : b * 60 + j + n ≤ 480) (hd : ∀ k, k < n → ¬ (b * 60 + j + (n - k) ≤ a * 60 + i + (n - 1 - k) ∧ a * 60 + i + (n - 1 - k) < b * 60 + j + n)) : ∀ (r k : Nat) (l8 : Option Value), k + r = n → vh_E 152 143 [some (.ref 88), some (.int (nI a)), some (.int (nI i)), some (.int (nI b)), some (.int (nI j)), some (.int (nI n)), some (.int 0), some (.int (nI k)), l8] [] (vh_K d (vh_sA mi 98 (cpd (mi 98) (a * 60 + i) (b * 60 + j) n k)) ml) = some (some (.int (nI n)), vh_K d (vh_sA mi 98 (cpd (mi 98) (a * 60 + i) (b * 60 + j) n n)) ml) := by
  intro r
  induction r with
  | zero =>
    intro k l8 hk
    have hk : k = n := hk
    subst hk
    rw [e152_143]
    simp only [e152_0, e152_1, e152_2, e152_5, e152_6, e152_9, e152_12, e152_13, e152_16, e152_19, e152_21, e152_22, e152_23, e152_24, e152_27, e152_28, e152_31, e152_32, e152_33, e152_36, e152_37, e152_40, e152_41, e152_42, e152_45, e152_46, e152_47, e152_50, e152_51, e152_52, e152_55, e152_56, e152_57, e152_58, e152_61, e152_62, e152_63, e152_66, e152_67, e152_68, e152_71, e152_72, e152_73, e152_76, e152_78, e152_81, e152_83, e152_86, e152_87, e152_88, e152_90, e152_91, e152_92, e152_93, e152_96, e152_97, e152_98, e152_99, e152_100, e152_103, e152_105, e152_106, e152_108, e152_109, e152_110, e152_111, e152_114, e152_115, e152_116, e152_117, e152_118, e152_121, e152_122, e152_123, e152_126, e152_127, e152_128, e152_130, e152_133, e152_134, e152_137, e152_138, e152_140, e152_141, e152_145, e152_147, e152_150, e152_152, e152_155, e152_157, e152_160, e152_162, e152_163, e152_164, e152_166, e152_167, e152_169, e152_170, e152_173, e152_175, e152_176, e152_177, e152_179, e152_180, e152_182, e152_183, e152_184, e152_187, e152_189, e152_190, e152_191, e152_192, e152_193, e152_195, e152_196, e152_197, e152_198, e152_201, e152_204, e152_206, nI_le (Nat.le_refl k) (show k < 2 ^ 31 by omega), if_true]
  | succ r ih =>
    intro k l8 hk
    have hat : nI n - 1 - nI k = nI (n - 1 - k) := by
      obtain ⟨m, rfl⟩ : ∃ m, n = m + 1 := ⟨n - 1, by omega⟩
      rw [nI_pred, pk_sub (by omega)]
      rfl
    have hx1 : vh_ixa 98 (nI (a * 60 + i + (n - 1 - k))) = true := ixa (by rw [kd98]; omega) (by omega)
    have hc1 : (nI (a * 60 + i + (n - 1 - k))).toNatClampNeg = a * 60 + i + (n - 1 - k) := nI_clamp (by omega)
    have hx2 : vh_ixa 98 (nI (b * 60 + j + (n - 1 - k))) = true := ixa (by rw [kd98]; omega) (by omega)
    have hc2 : (nI (b * 60 + j + (n - 1 - k))).toNatClampNeg = b * 60 + j + (n - 1 - k) := nI_clamp (by omega)
    rw [e152_143]
    simp only [e152_0, e152_1, e152_2, e152_5, e152_6, e152_9, e152_12, e152_13, e152_16, e152_19, e152_21, e152_22, e152_23, e152_24, e152_27, e152_28, e152_31, e152_32, e152_33, e152_36, e152_37, e152_40, e152_41, e152_42, e152_45, e152_46, e152_47, e152_50, e152_51, e152_52, e152_55, e152_56, e152_57, e152_58, e152_61, e152_62, e152_63, e152_66, e152_67, e152_68, e152_71, e152_72, e152_73, e152_76, e152_78, e152_81, e152_83, e152_86, e152_87, e152_88, e152_90, e152_91, e152_92, e152_93, e152_96, e152_97, e152_98, e152_99, e152_100, e152_103, e152_105, e152_106, e152_108, e152_109, e152_110, e152_111, e152_114, e152_115, e152_116, e152_117, e152_118, e152_121, e152_122, e152_123, e152_126, e152_127, e152_128, e152_130, e152_133, e152_134, e152_137, e152_138, e152_140, e152_141, e152_145, e152_147, e152_150, e152_152, e152_155, e152_157, e152_160, e152_162, e152_163, e152_164, e152_166, e152_167, e152_169, e152_170, e152_173, e152_175, e152_176, e152_177, e152_179, e152_180, e152_182, e152_183, e152_184, e152_187, e152_189, e152_190, e152_191, e152_192, e152_193, e152_195, e152_196, e152_197, e152_198, e152_201, e152_204, e152_206, ok88, ok98, rf88_11, hat, z60, hx1, hc1, hx2, hc2, nI_1, if_neg (nI_ge (show k < n by omega) (show n < 2 ^ 31 by omega)), if_true, sAn, sAs, sAA, ups, upn, bkv_n, hlv_n, ne_eq, Nat.reduceEqDiff, Nat.reduceLT, Nat.reduceLeDiff, or_true, true_or, not_false_eq_true]
    rw [cpd_s (by omega) (hd k (by omega))]
    exact ih (k + 1) _ (by omega)
theorem s152a {a i b j n : Int32} (h : ¬ ((0 ≤ a ∧ a ≤ 7) ∧ (0 ≤ b ∧ b ≤ 7))) : vh_C 152 [.ref 88, .int a, .int i, .int b, .int j, .int n] (vh_K d mi ml) = some (some (.int (-1000001)), vh_K d (vh_sA mi 88 (upd (mi 88) 0 0)) ml) := by
  simp only [c152, e152_0, e152_1, e152_2, e152_5, e152_6, e152_9, e152_12, e152_13, e152_16, e152_19, e152_21, e152_22, e152_23, e152_24, e152_27, e152_28, e152_31, e152_32, e152_33, e152_36, e152_37, e152_40, e152_41, e152_42, e152_45, e152_46, e152_47, e152_50, e152_51, e152_52, e152_55, e152_56, e152_57, e152_58, e152_61, e152_62, e152_63, e152_66, e152_67, e152_68, e152_71, e152_72, e152_73, e152_76, e152_78, e152_81, e152_83, e152_86, e152_87, e152_88, e152_90, e152_91, e152_92, e152_93, e152_96, e152_97, e152_98, e152_99, e152_100, e152_103, e152_105, e152_106, e152_108, e152_109, e152_110, e152_111, e152_114, e152_115, e152_116, e152_117, e152_118, e152_121, e152_122, e152_123, e152_126, e152_128, e152_130, e152_133, e152_134, e152_137, e152_138, e152_140, e152_141, e152_145, e152_147, e152_150, e152_152, e152_155, e152_157, e152_160, e152_162, e152_163, e152_164, e152_166, e152_167, e152_169, e152_170, e152_173, e152_175, e152_176, e152_177, e152_179, e152_180, e152_182, e152_183, e152_184, e152_187, e152_189, e152_190, e152_191, e152_192, e152_193, e152_195, e152_196, e152_197, e152_198, e152_201, e152_204, e152_206, s148, ok88, not_true_eq_false, not_false_eq_true, if_true, if_false, and_self, vh_bds, vh_ps1, vh_ps0, vb0, vb1, vbz, vbo]
  by_cases h1 : 0 ≤ a ∧ a ≤ 7
  · have h2 : ¬ (0 ≤ b ∧ b ≤ 7) := fun q => h ⟨h1, q⟩
    simp only [h1, h2, not_true_eq_false, not_false_eq_true, if_true, if_false, and_self, vh_bds, vh_ps1, vh_ps0, vb0, vb1, vbz, vbo]
  · simp only [h1, not_true_eq_false, not_false_eq_true, if_true, if_false, and_self, vh_bds, vh_ps1, vh_ps0, vb0, vb1, vbz, vbo]
/-- the reference's copy, its sheets good -/
theorem s152x {a b : Nat} {i j n : Int32} (ha : a < 8) (hb : b < 8) : vh_C 152 [.ref 88, .int (nI a), .int i, .int (nI b), .int j, .int n] (vh_K d mi ml) =
    if mi 96 a < 0 ∨ mi 96 b < 0 then some (some (.int (-1000010 - 1)), vh_K d (vh_sA mi 88 (upd (upd (upd (mi 88) 0 0) 1 0) 1 1)) ml)
    else if ¬ mi 96 a = mi 96 b then some (some (.int (-1000010 - 5)), vh_K d (vh_sA mi 88 (upd (upd (upd (mi 88) 0 0) 1 0) 1 5)) ml)
    else if i < 0 ∨ j < 0 ∨ n < 0 ∨ (mi 97 a).toInt64 < i.toInt64 + n.toInt64 ∨ ¬ (j.toInt64 + n.toInt64 ≤ (mi 97 b).toInt64) then some (some (.int (-1000010 - 2)), vh_K d (vh_sA mi 88 (upd (upd (upd (mi 88) 0 0) 1 0) 1 2)) ml)
    else vh_E 152 127 [some (.ref 88), some (.int (nI a)), some (.int i), some (.int (nI b)), some (.int j), some (.int n), none, none, none] [] (vh_K d (vh_sA mi 88 (upd (upd (mi 88) 0 0) 1 0)) ml) := by
  have hx1 : vh_ixa 96 (nI a) = true := ixa (by rw [kd96]; omega) (by omega)
  have hx2 : vh_ixa 96 (nI b) = true := ixa (by rw [kd96]; omega) (by omega)
  have hx3 : vh_ixa 97 (nI a) = true := ixa (by rw [kd97]; omega) (by omega)
  have hx4 : vh_ixa 97 (nI b) = true := ixa (by rw [kd97]; omega) (by omega)
  have hc1 : (nI a).toNatClampNeg = a := nI_clamp (by omega)
  have hc2 : (nI b).toNatClampNeg = b := nI_clamp (by omega)
  have cle : ∀ x y : Int64, (lg_cmp x y ≤ 0) = (x ≤ y) := by
    intro x y
    apply propext
    rw [← Int32.not_lt, cmp_gt, Int64.not_lt]
  simp only [c152, e152_0, e152_1, e152_2, e152_5, e152_6, e152_9, e152_12, e152_13, e152_16, e152_19, e152_21, e152_22, e152_23, e152_24, e152_27, e152_28, e152_31, e152_32, e152_33, e152_36, e152_37, e152_40, e152_41, e152_42, e152_45, e152_46, e152_47, e152_50, e152_51, e152_52, e152_55, e152_56, e152_57, e152_58, e152_61, e152_62, e152_63, e152_66, e152_67, e152_68, e152_71, e152_72, e152_73, e152_76, e152_78, e152_81, e152_83, e152_86, e152_87, e152_88, e152_90, e152_91, e152_92, e152_93, e152_96, e152_97, e152_98, e152_99, e152_100, e152_103, e152_105, e152_106, e152_108, e152_109, e152_110, e152_111, e152_114, e152_115, e152_116, e152_117, e152_118, e152_121, e152_122, e152_123, e152_126, e152_128, e152_130, e152_133, e152_134, e152_137, e152_138, e152_140, e152_141, e152_145, e152_147, e152_150, e152_152, e152_155, e152_157, e152_160, e152_162, e152_163, e152_164, e152_166, e152_167, e152_169, e152_170, e152_173, e152_175, e152_176, e152_177, e152_179, e152_180, e152_182, e152_183, e152_184, e152_187, e152_189, e152_190, e152_191, e152_192, e152_193, e152_195, e152_196, e152_197, e152_198, e152_201, e152_204, e152_206, s148, s150, ok88, ok96, ok97, rf88_9, rf88_10, hx1, hx2, hx3, hx4, hc1, hc2, sK ha, sK hb, cmp_gt, cle, not_true_eq_false, not_false_eq_true, if_true, if_false, and_self, vh_bds, vh_ps1, vh_ps0, vb0, vb1, vbz, vbo, sAn, sAs, sAA, ups, upn, bkv_n, hlv_n, ne_eq, Nat.reduceEqDiff, Nat.reduceLT, Nat.reduceLeDiff, or_true, true_or, not_false_eq_true]
  by_cases h1 : mi 96 a < 0
  · rw [if_pos h1, if_pos (Or.inl h1)]
  rw [if_neg h1]
  by_cases h2 : mi 96 b < 0
  · rw [if_neg (Int32.not_le.mpr h2), if_pos (Or.inr h2)]
  rw [if_pos (nlt h2), if_neg (show ¬ (mi 96 a < 0 ∨ mi 96 b < 0) from fun q => q.elim h1 h2)]
  by_cases h3 : mi 96 a = mi 96 b
  · rw [if_pos h3, if_neg (not_not_intro h3)]
    by_cases g1 : i < 0
    · rw [if_pos g1, if_pos (Or.inl g1)]
    rw [if_neg g1]
    by_cases g2 : j < 0
    · rw [if_pos g2, if_pos (Or.inr (Or.inl g2))]
    rw [if_neg g2]
    by_cases g3 : n < 0
    · rw [if_pos g3, if_pos (Or.inr (Or.inr (Or.inl g3)))]
    rw [if_neg g3]
    by_cases g4 : (mi 97 a).toInt64 < i.toInt64 + n.toInt64
    · rw [if_pos g4, if_pos (Or.inr (Or.inr (Or.inr (Or.inl g4))))]
    rw [if_neg g4]
    by_cases g5 : j.toInt64 + n.toInt64 ≤ (mi 97 b).toInt64
    · rw [if_pos g5, if_neg]
      rintro (q | q | q | q | q)
      · exact g1 q
      · exact g2 q
      · exact g3 q
      · exact g4 q
      · exact q g5
    · rw [if_neg g5, if_pos (Or.inr (Or.inr (Or.inr (Or.inr g5))))]
  · rw [if_neg h3, if_pos h3]
theorem l152 {a i b j n za zb : Nat} (ha : a < 8) (hb : b < 8) (hza : za ≤ 60) (hzb : zb ≤ 60) (g1 : i + n ≤ za) (g2 : j + n ≤ zb) : vh_E 152 127 [some (.ref 88), some (.int (nI a)), some (.int (nI i)), some (.int (nI b)), some (.int (nI j)), some (.int (nI n)), none, none, none] [] (vh_K d mi ml) = some (some (.int (nI n)), vh_K d (vh_sA mi 98 (va_cpy (mi 98) (mi 98) (a * 60 + i) (b * 60 + j) n)) ml) := by
  have e0 : ∀ (f : Nat → Int32), f = mi 98 → vh_K d mi ml = vh_K d (vh_sA mi 98 f) ml := fun f hf => by rw [hf, sAe]
  by_cases hij : i < j
  · simp only [e152_0, e152_1, e152_2, e152_5, e152_6, e152_9, e152_12, e152_13, e152_16, e152_19, e152_21, e152_22, e152_23, e152_24, e152_27, e152_28, e152_31, e152_32, e152_33, e152_36, e152_37, e152_40, e152_41, e152_42, e152_45, e152_46, e152_47, e152_50, e152_51, e152_52, e152_55, e152_56, e152_57, e152_58, e152_61, e152_62, e152_63, e152_66, e152_67, e152_68, e152_71, e152_72, e152_73, e152_76, e152_78, e152_81, e152_83, e152_86, e152_87, e152_88, e152_90, e152_91, e152_92, e152_93, e152_96, e152_97, e152_98, e152_99, e152_100, e152_103, e152_105, e152_106, e152_108, e152_109, e152_110, e152_111, e152_114, e152_115, e152_116, e152_117, e152_118, e152_121, e152_122, e152_123, e152_126, e152_127, e152_128, e152_130, e152_133, e152_134, e152_137, e152_138, e152_140, e152_141, e152_145, e152_147, e152_150, e152_152, e152_155, e152_157, e152_160, e152_162, e152_163, e152_164, e152_166, e152_167, e152_169, e152_170, e152_173, e152_175, e152_176, e152_177, e152_179, e152_180, e152_182, e152_183, e152_184, e152_187, e152_189, e152_190, e152_191, e152_192, e152_193, e152_195, e152_196, e152_197, e152_198, e152_201, e152_204, e152_206, nI_lt hij (show j < 2 ^ 31 by omega), if_true]
    rw [e0 (cpd (mi 98) (a * 60 + i) (b * 60 + j) n 0) cpd_0, show (some (Value.int 0) : Option Value) = some (.int (nI 0)) from rfl]
    rw [show ([some (Value.ref 88), some (Value.int (nI a)), some (Value.int (nI i)), some (Value.int (nI b)), some (Value.int (nI j)), some (Value.int (nI n)), some (Value.int (nI 0)), some (Value.int (nI 0)), none] : vh_L) = [some (Value.ref 88), some (Value.int (nI a)), some (Value.int (nI i)), some (Value.int (nI b)), some (Value.int (nI j)), some (Value.int (nI n)), some (Value.int 0), some (Value.int (nI 0)), none] from rfl]
    rw [l152d (by omega) (by omega) (fun k hk q => ?_) n 0 none (by omega), cpd_n]
    by_cases hab : a = b
    · subst hab; omega
    · rcases Nat.lt_or_gt_of_ne hab with z | z <;> omega
  · simp only [e152_0, e152_1, e152_2, e152_5, e152_6, e152_9, e152_12, e152_13, e152_16, e152_19, e152_21, e152_22, e152_23, e152_24, e152_27, e152_28, e152_31, e152_32, e152_33, e152_36, e152_37, e152_40, e152_41, e152_42, e152_45, e152_46, e152_47, e152_50, e152_51, e152_52, e152_55, e152_56, e152_57, e152_58, e152_61, e152_62, e152_63, e152_66, e152_67, e152_68, e152_71, e152_72, e152_73, e152_76, e152_78, e152_81, e152_83, e152_86, e152_87, e152_88, e152_90, e152_91, e152_92, e152_93, e152_96, e152_97, e152_98, e152_99, e152_100, e152_103, e152_105, e152_106, e152_108, e152_109, e152_110, e152_111, e152_114, e152_115, e152_116, e152_117, e152_118, e152_121, e152_122, e152_123, e152_126, e152_127, e152_128, e152_130, e152_133, e152_134, e152_137, e152_138, e152_140, e152_141, e152_145, e152_147, e152_150, e152_152, e152_155, e152_157, e152_160, e152_162, e152_163, e152_164, e152_166, e152_167, e152_169, e152_170, e152_173, e152_175, e152_176, e152_177, e152_179, e152_180, e152_182, e152_183, e152_184, e152_187, e152_189, e152_190, e152_191, e152_192, e152_193, e152_195, e152_196, e152_197, e152_198, e152_201, e152_204, e152_206, if_neg (nI_nlt (show j ≤ i by omega) (show i < 2 ^ 31 by omega))]
    rw [e0 (cpu (mi 98) (a * 60 + i) (b * 60 + j) 0) cpu_0, show (some (Value.int 0) : Option Value) = some (.int (nI 0)) from rfl]
    rw [l152u (by omega) (by omega) (fun k hk q => ?_) n 0 none (by omega), cpu_n]
    by_cases hab : a = b
    · subst hab; omega
    · rcases Nat.lt_or_gt_of_ne hab with z | z <;> omega
theorem ltm {l : Int32} (h : l = -1 ∨ l = 0 ∨ l = 1 ∨ l = 2) : (l < 0) = (l = -1) := by
  rcases h with rfl | rfl | rfl | rfl <;> decide
theorem sim_copy {a i b j n : Int32} (h : Rel d mi) : Sim 22 152 [.int a, .int i, .int b, .int j, .int n] d mi ml := by
  by_cases hs : (0 ≤ a ∧ a ≤ 7) ∧ (0 ≤ b ∧ b ≤ 7)
  · obtain ⟨x, hx, rfl⟩ := sN hs.1
    obtain ⟨y, hy, rfl⟩ := sN hs.2
    have hR := h.2.2.2.1
    obtain ⟨e1, e2, e3, z, hz, e4, e5⟩ := hR x hx
    obtain ⟨f1, f2, f3, z', hz', f4, f5⟩ := hR y hy
    have l1 : (mi 96 x < 0) = (mi 2 x = -1) := by rw [← e1, ltm e3]
    have l2 : (mi 96 y < 0) = (mi 2 y = -1) := by rw [← f1, ltm f3]
    by_cases hm : mi 2 x = -1 ∨ mi 2 y = -1
    · refine Sim.mk (s22b hx hy hm) ((s152x hx hy).trans (if_pos ?_)) rfl ?_
      · simp only [sAn, sAs, sAA, ups, upn, bkv_n, hlv_n, ne_eq, Nat.reduceEqDiff, Nat.reduceLT, Nat.reduceLeDiff, or_true, true_or, not_false_eq_true]; rw [l1, l2]; exact hm
      · simp only [sAn, sAs, sAA, ups, upn, bkv_n, hlv_n, ne_eq, Nat.reduceEqDiff, Nat.reduceLT, Nat.reduceLeDiff, or_true, true_or, not_false_eq_true]; exact h.stat
    have hm1 : ¬ mi 2 x = -1 := fun q => hm (Or.inl q)
    have hm2 : ¬ mi 2 y = -1 := fun q => hm (Or.inr q)
    have k1 : ∀ f, ¬ ((vh_sA mi 0 f) 96 x < 0 ∨ (vh_sA mi 0 f) 96 y < 0) := fun f => by
      simp only [sAn, sAs, sAA, ups, upn, bkv_n, hlv_n, ne_eq, Nat.reduceEqDiff, Nat.reduceLT, Nat.reduceLeDiff, or_true, true_or, not_false_eq_true]; rw [l1, l2]; exact hm
    by_cases hl : mi 2 x = mi 2 y
    · have hl2 : mi 96 x = mi 96 y := by rw [← e1, ← f1]; exact hl
      have z1 : mi 97 x = nI z := e2.symm.trans e4
      have z2 : mi 97 y = nI z' := f2.symm.trans f4
      by_cases hG : cpG i j n z z'
      · obtain ⟨ki, kj, m, rfl, rfl, rfl, g1, g2⟩ := id hG
        have k3 := (cpR hz hz').mpr hG
        have A := s22e (d := d) (ml := ml) hx hy hm2 hl e4 f4 hz hz' g1 g2
        refine Sim.mk A ((s152x hx hy).trans ?_) (v' := nI m) (mi2 := vh_sA (vh_sA (vh_sA (vh_sA mi 4 (va_cpy (mi 4) (mi 4) (x * 60 + ki) (y * 60 + kj) m)) 0 (upd (mi 0) 12 0)) 88 (upd (upd (mi 88) 0 0) 1 0)) 98 (va_cpy (mi 98) (mi 98) (x * 60 + ki) (y * 60 + kj) m)) rfl ?_
        · rw [if_neg (by simp only [sAn, sAs, sAA, ups, upn, bkv_n, hlv_n, ne_eq, Nat.reduceEqDiff, Nat.reduceLT, Nat.reduceLeDiff, or_true, true_or, not_false_eq_true]; rw [l1, l2]; exact hm), if_neg (by simp only [sAn, sAs, sAA, ups, upn, bkv_n, hlv_n, ne_eq, Nat.reduceEqDiff, Nat.reduceLT, Nat.reduceLeDiff, or_true, true_or, not_false_eq_true]; exact not_not_intro hl2), if_neg (by simp only [sAn, sAs, sAA, ups, upn, bkv_n, hlv_n, ne_eq, Nat.reduceEqDiff, Nat.reduceLT, Nat.reduceLeDiff, or_true, true_or, not_false_eq_true]; rw [z1, z2]; exact k3)]
          rw [l152 hx hy hz hz' g1 g2]
          simp only [sAn, sAs, sAA, ups, upn, bkv_n, hlv_n, ne_eq, Nat.reduceEqDiff, Nat.reduceLT, Nat.reduceLeDiff, or_true, true_or, not_false_eq_true]
        · unfold Rel at h ⊢
          simp only [sAn, sAs, sAA, ups, upn, bkv_n, hlv_n, ne_eq, Nat.reduceEqDiff, Nat.reduceLT, Nat.reduceLeDiff, or_true, true_or, not_false_eq_true]
          refine ⟨h.1, h.2.1, trivial, ?_, h.2.2.2.2⟩
          intro t ht
          obtain ⟨q1, q2, q3, z'', hz'', q4, q5⟩ := hR t ht
          refine ⟨q1, q2, q3, z'', hz'', q4, fun q c hc => ?_⟩
          unfold va_cpy
          by_cases hin : y * 60 + kj ≤ t * 60 + c ∧ t * 60 + c < y * 60 + kj + m
          · rw [if_pos hin, if_pos hin]
            have : x * 60 + ki + (t * 60 + c - (y * 60 + kj)) = x * 60 + (ki + (t * 60 + c - (y * 60 + kj))) := by omega
            rw [this]
            exact e5 hm1 _ (by omega)
          · rw [if_neg hin, if_neg hin]
            exact q5 q c hc
      · have k3 : i < 0 ∨ j < 0 ∨ n < 0 ∨ (nI z).toInt64 < i.toInt64 + n.toInt64 ∨ ¬ (j.toInt64 + n.toInt64 ≤ (nI z').toInt64) := Classical.byContradiction (fun q => hG ((cpR hz hz').mp q))
        have A := s22d (d := d) (ml := ml) hx hy hm2 hl e4 f4 hz hz' hG
        refine Sim.mk A ((s152x hx hy).trans ?_) (v' := -1000010 - 2) (mi2 := vh_sA (vh_sA mi 0 (upd (mi 0) 12 2)) 88 (upd (upd (upd (mi 88) 0 0) 1 0) 1 2)) rfl h.stat
        rw [if_neg (k1 _), if_neg (by simp only [sAn, sAs, sAA, ups, upn, bkv_n, hlv_n, ne_eq, Nat.reduceEqDiff, Nat.reduceLT, Nat.reduceLeDiff, or_true, true_or, not_false_eq_true]; exact not_not_intro hl2), if_pos (by simp only [sAn, sAs, sAA, ups, upn, bkv_n, hlv_n, ne_eq, Nat.reduceEqDiff, Nat.reduceLT, Nat.reduceLeDiff, or_true, true_or, not_false_eq_true]; rw [z1, z2]; exact k3)]
        simp only [sAn, sAs, sAA, ups, upn, bkv_n, hlv_n, ne_eq, Nat.reduceEqDiff, Nat.reduceLT, Nat.reduceLeDiff, or_true, true_or, not_false_eq_true]
    · have A := s22c (d := d) (ml := ml) (i := i) (j := j) (n := n) hx hy hm1 hm2 hl
      refine Sim.mk A ((s152x hx hy).trans ?_) (v' := -1000010 - 5) (mi2 := vh_sA (vh_sA mi 0 (upd (mi 0) 12 5)) 88 (upd (upd (upd (mi 88) 0 0) 1 0) 1 5)) rfl h.stat
      rw [if_neg (k1 _), if_pos (by simp only [sAn, sAs, sAA, ups, upn, bkv_n, hlv_n, ne_eq, Nat.reduceEqDiff, Nat.reduceLT, Nat.reduceLeDiff, or_true, true_or, not_false_eq_true]; rw [← e1, ← f1]; exact hl)]
      simp only [sAn, sAs, sAA, ups, upn, bkv_n, hlv_n, ne_eq, Nat.reduceEqDiff, Nat.reduceLT, Nat.reduceLeDiff, or_true, true_or, not_false_eq_true]
  · exact Sim.mk (s22a hs) (s152a hs) rfl h.thrown
end
