/-! LOGS -/
def shf (f : Nat → Int32) (i n : Nat) : Nat → Int32 := fun c => if i < c ∧ c ≤ n then f (c - 1) else f c
theorem shf_0 {f : Nat → Int32} {n : Nat} : shf f n n = f := by funext c; unfold shf; rw [if_neg (by omega)]
theorem shf_r {f : Nat → Int32} {i n : Nat} : shf f (i + 1) n i = f i := by unfold shf; rw [if_neg (by omega)]
theorem shf_s {f : Nat → Int32} {i n : Nat} (h : i + 1 ≤ n) : upd (shf f (i + 1) n) (i + 1) (f i) = shf f i n := by
  funext c
  unfold upd shf
  by_cases h1 : c = i + 1
  · subst h1
    rw [if_pos rfl, if_pos (by omega)]
    rfl
  · rw [if_neg h1]
    by_cases h2 : i + 1 < c ∧ c ≤ n
    · rw [if_pos h2, if_pos (by omega)]
    · rw [if_neg h2, if_neg (by omega)]
def lgp (t : Nat → Int32) (w : Int32) : Nat → Nat
  | 0 => 0
  | i + 1 => if w < t i then lgp t w i else i + 1
theorem lgp_le (t : Nat → Int32) (w : Int32) : ∀ n, lgp t w n ≤ n := by
  intro n
  induction n with
  | zero => exact Nat.le_refl _
  | succ n ih =>
    unfold lgp
    split
    · omega
    · omega
theorem lgp_hi (t : Nat → Int32) (w : Int32) : ∀ n i, lgp t w n ≤ i → i < n → w < t i := by
  intro n
  induction n with
  | zero => intro i _ h; omega
  | succ n ih =>
    intro i h1 h2
    unfold lgp at h1
    split at h1
    · rename_i h
      by_cases hi : i = n
      · rw [hi]; exact h
      · exact ih i h1 (by omega)
    · omega
theorem lgp_lo (t : Nat → Int32) (w : Int32) : ∀ n, (∀ i j, i ≤ j → j < n → t i ≤ t j) → ∀ i, i < lgp t w n → ¬ w < t i := by
  intro n
  induction n with
  | zero => intro _ i h; unfold lgp at h; omega
  | succ n ih =>
    intro hs i h
    unfold lgp at h
    split at h
    · exact ih (fun i j h1 h2 => hs i j h1 (by omega)) i h
    · rename_i hn
      intro q
      exact hn (Int32.lt_of_lt_of_le q (hs i n (by omega) (by omega)))
def insA (f : Nat → Int32) (p n : Nat) (v : Int32) : Nat → Int32 := upd (shf f p n) p v
section
variable {d : Nat} {ml : Nat → Nat → Int64}
theorem l106_67 {w x2 x3 x4 : Int32} {t h a b : Nat → Int32} {n : Nat} (hn : n < 40) : ∀ (i : Nat) (mi : Nat → Nat → Int32), i ≤ n → mi 67 4 = nI n → mi 68 = shf t i n → mi 69 = shf h i n → mi 70 = shf a i n → mi 71 = shf b i n →
    vh_E 106 18 [some (.ref 67), some (.int w), some (.int x2), some (.int x3), some (.int x4), some (.int (nI i))] [] (vh_K d mi ml) = some (some (.int (nI (n + 1))), vh_K d (vh_sA (vh_sA (vh_sA (vh_sA (vh_sA mi 68 (insA t (lgp t w i) n w)) 69 (insA h (lgp t w i) n x2)) 70 (insA a (lgp t w i) n x3)) 71 (insA b (lgp t w i) n x4)) 67 (upd (mi 67) 4 (nI (n + 1)))) ml) := by
  intro i
  induction i with
  | zero =>
    intro mi hi h0 h1 h2 h3 h4
    have x1 : vh_ixa 68 (nI 0) = true := ixa (by rw [kd68]; omega) (by omega)
    have x2' : vh_ixa 69 (nI 0) = true := ixa (by rw [kd69]; omega) (by omega)
    have x3' : vh_ixa 70 (nI 0) = true := ixa (by rw [kd70]; omega) (by omega)
    have x4' : vh_ixa 71 (nI 0) = true := ixa (by rw [kd71]; omega) (by omega)
    have hc : (nI 0).toNatClampNeg = 0 := nI_clamp (by omega)
    rw [e106_18]
    simp only [e106_0, e106_1, e106_4, e106_6, e106_9, e106_11, e106_12, e106_13, e106_16, e106_20, e106_23, e106_24, e106_27, e106_29, e106_30, e106_31, e106_32, e106_33, e106_36, e106_37, e106_40, e106_42, e106_43, e106_46, e106_48, e106_49, e106_50, e106_51, e106_52, e106_53, e106_56, e106_58, e106_59, e106_62, e106_64, e106_65, e106_66, e106_67, e106_68, e106_69, e106_72, e106_74, e106_75, e106_78, e106_80, e106_81, e106_82, e106_83, e106_84, e106_85, e106_88, e106_90, e106_91, e106_94, e106_96, e106_97, e106_98, e106_99, e106_100, e106_103, e106_106, e106_107, e106_110, e106_112, e106_113, e106_114, e106_115, e106_118, e106_120, e106_121, e106_122, e106_123, e106_126, e106_128, e106_129, e106_130, e106_131, e106_134, e106_136, e106_138, e106_139, e106_140, e106_141, e106_144, e106_145, e106_146, e106_149, e106_150, e106_153, ok67, ok68, ok69, ok70, ok71, rf67_0, rf67_1, rf67_2, rf67_3, x1, x2', x3', x4', hc, show nI 0 ≤ (0 : Int32) from by decide, if_true, sAn, sAs, sAA, ups, upn, bkv_n, hlv_n, ne_eq, Nat.reduceEqDiff, Nat.reduceLT, Nat.reduceLeDiff, or_true, true_or, not_false_eq_true, h0, h1, h2, h3, h4, nI_1]
    rfl
  | succ i ih =>
    intro mi hi h0 h1 h2 h3 h4
    have x1 : vh_ixa 68 (nI (i + 1)) = true := ixa (by rw [kd68]; omega) (by omega)
    have x2' : vh_ixa 69 (nI (i + 1)) = true := ixa (by rw [kd69]; omega) (by omega)
    have x3' : vh_ixa 70 (nI (i + 1)) = true := ixa (by rw [kd70]; omega) (by omega)
    have x4' : vh_ixa 71 (nI (i + 1)) = true := ixa (by rw [kd71]; omega) (by omega)
    have y1 : vh_ixa 68 (nI i) = true := ixa (by rw [kd68]; omega) (by omega)
    have y2' : vh_ixa 69 (nI i) = true := ixa (by rw [kd69]; omega) (by omega)
    have y3' : vh_ixa 70 (nI i) = true := ixa (by rw [kd70]; omega) (by omega)
    have y4' : vh_ixa 71 (nI i) = true := ixa (by rw [kd71]; omega) (by omega)
    have hc : (nI (i + 1)).toNatClampNeg = i + 1 := nI_clamp (by omega)
    have hc' : (nI i).toNatClampNeg = i := nI_clamp (by omega)
    rw [e106_18]
    by_cases hw : w < t i
    · have hw' : ¬ t i ≤ w := Int32.not_le.mpr hw
      simp only [e106_0, e106_1, e106_4, e106_6, e106_9, e106_11, e106_12, e106_13, e106_16, e106_20, e106_23, e106_24, e106_27, e106_29, e106_30, e106_31, e106_32, e106_33, e106_36, e106_37, e106_40, e106_42, e106_43, e106_46, e106_48, e106_49, e106_50, e106_51, e106_52, e106_53, e106_56, e106_58, e106_59, e106_62, e106_64, e106_65, e106_66, e106_67, e106_68, e106_69, e106_72, e106_74, e106_75, e106_78, e106_80, e106_81, e106_82, e106_83, e106_84, e106_85, e106_88, e106_90, e106_91, e106_94, e106_96, e106_97, e106_98, e106_99, e106_100, e106_103, e106_106, e106_107, e106_110, e106_112, e106_113, e106_114, e106_115, e106_118, e106_120, e106_121, e106_122, e106_123, e106_126, e106_128, e106_129, e106_130, e106_131, e106_134, e106_136, e106_138, e106_139, e106_140, e106_141, e106_144, e106_145, e106_146, e106_149, e106_150, e106_153, ok67, ok68, ok69, ok70, ok71, rf67_0, rf67_1, rf67_2, rf67_3, x1, x2', x3', x4', y1, y2', y3', y4', hc, hc', if_neg (nI_nle (show 0 < i + 1 by omega) (show i + 1 < 2 ^ 31 by omega)), sAn, sAs, sAA, ups, upn, bkv_n, hlv_n, ne_eq, Nat.reduceEqDiff, Nat.reduceLT, Nat.reduceLeDiff, or_true, true_or, not_false_eq_true, nI_pred, h0, h1, h2, h3, h4, shf_r, hw', if_false, pk_m1, shf_s hi]
      rw [ih _ (by omega) (by simp only [sAn, sAs, sAA, ups, upn, bkv_n, hlv_n, ne_eq, Nat.reduceEqDiff, Nat.reduceLT, Nat.reduceLeDiff, or_true, true_or, not_false_eq_true]; exact h0) (by simp only [sAn, sAs, sAA, ups, upn, bkv_n, hlv_n, ne_eq, Nat.reduceEqDiff, Nat.reduceLT, Nat.reduceLeDiff, or_true, true_or, not_false_eq_true]) (by simp only [sAn, sAs, sAA, ups, upn, bkv_n, hlv_n, ne_eq, Nat.reduceEqDiff, Nat.reduceLT, Nat.reduceLeDiff, or_true, true_or, not_false_eq_true]) (by simp only [sAn, sAs, sAA, ups, upn, bkv_n, hlv_n, ne_eq, Nat.reduceEqDiff, Nat.reduceLT, Nat.reduceLeDiff, or_true, true_or, not_false_eq_true]) (by simp only [sAn, sAs, sAA, ups, upn, bkv_n, hlv_n, ne_eq, Nat.reduceEqDiff, Nat.reduceLT, Nat.reduceLeDiff, or_true, true_or, not_false_eq_true])]
      have e : lgp t w (i + 1) = lgp t w i := if_pos hw
      rw [e]
      congr 3
      funext c
      unfold vh_sA
      by_cases c1 : c = 67
      · subst c1; rfl
      by_cases c2 : c = 71
      · subst c2; rfl
      by_cases c3 : c = 70
      · subst c3; rfl
      by_cases c4 : c = 69
      · subst c4; rfl
      by_cases c5 : c = 68
      · subst c5; rfl
      simp only [c1, c2, c3, c4, c5, if_false]
    · have hw' : t i ≤ w := nlt hw
      simp only [e106_0, e106_1, e106_4, e106_6, e106_9, e106_11, e106_12, e106_13, e106_16, e106_20, e106_23, e106_24, e106_27, e106_29, e106_30, e106_31, e106_32, e106_33, e106_36, e106_37, e106_40, e106_42, e106_43, e106_46, e106_48, e106_49, e106_50, e106_51, e106_52, e106_53, e106_56, e106_58, e106_59, e106_62, e106_64, e106_65, e106_66, e106_67, e106_68, e106_69, e106_72, e106_74, e106_75, e106_78, e106_80, e106_81, e106_82, e106_83, e106_84, e106_85, e106_88, e106_90, e106_91, e106_94, e106_96, e106_97, e106_98, e106_99, e106_100, e106_103, e106_106, e106_107, e106_110, e106_112, e106_113, e106_114, e106_115, e106_118, e106_120, e106_121, e106_122, e106_123, e106_126, e106_128, e106_129, e106_130, e106_131, e106_134, e106_136, e106_138, e106_139, e106_140, e106_141, e106_144, e106_145, e106_146, e106_149, e106_150, e106_153, ok67, ok68, ok69, ok70, ok71, rf67_0, rf67_1, rf67_2, rf67_3, x1, x2', x3', x4', y1, y2', y3', y4', hc, hc', if_neg (nI_nle (show 0 < i + 1 by omega) (show i + 1 < 2 ^ 31 by omega)), sAn, sAs, sAA, ups, upn, bkv_n, hlv_n, ne_eq, Nat.reduceEqDiff, Nat.reduceLT, Nat.reduceLeDiff, or_true, true_or, not_false_eq_true, nI_pred, h0, h1, h2, h3, h4, shf_r, hw', if_true, nI_1]
      have e : lgp t w (i + 1) = i + 1 := if_neg hw
      rw [e]
      rfl
theorem s106_67 {w x2 x3 x4 : Int32} {n : Nat} {mi : Nat → Nat → Int32} (hn : n < 40) (h0 : mi 67 4 = nI n) : vh_C 106 [.ref 67, .int w, .int x2, .int x3, .int x4] (vh_K d mi ml) = some (some (.int (nI (n + 1))), vh_K d (vh_sA (vh_sA (vh_sA (vh_sA (vh_sA mi 68 (insA (mi 68) (lgp (mi 68) w n) n w)) 69 (insA (mi 69) (lgp (mi 68) w n) n x2)) 70 (insA (mi 70) (lgp (mi 68) w n) n x3)) 71 (insA (mi 71) (lgp (mi 68) w n) n x4)) 67 (upd (mi 67) 4 (nI (n + 1)))) ml) := by
  have h40 : nI n < 40 := nI_lt (b := 40) hn (by decide)
  simp only [c106, e106_0, e106_1, e106_4, e106_6, e106_9, e106_11, e106_12, e106_13, e106_16, e106_20, e106_23, e106_24, e106_27, e106_29, e106_30, e106_31, e106_32, e106_33, e106_36, e106_37, e106_40, e106_42, e106_43, e106_46, e106_48, e106_49, e106_50, e106_51, e106_52, e106_53, e106_56, e106_58, e106_59, e106_62, e106_64, e106_65, e106_66, e106_67, e106_68, e106_69, e106_72, e106_74, e106_75, e106_78, e106_80, e106_81, e106_82, e106_83, e106_84, e106_85, e106_88, e106_90, e106_91, e106_94, e106_96, e106_97, e106_98, e106_99, e106_100, e106_103, e106_106, e106_107, e106_110, e106_112, e106_113, e106_114, e106_115, e106_118, e106_120, e106_121, e106_122, e106_123, e106_126, e106_128, e106_129, e106_130, e106_131, e106_134, e106_136, e106_138, e106_139, e106_140, e106_141, e106_144, e106_145, e106_146, e106_149, e106_150, e106_153, ok67, h0, h40, if_true]
  exact l106_67 hn n mi (Nat.le_refl _) h0 shf_0.symm shf_0.symm shf_0.symm shf_0.symm
theorem f106_67 {w x2 x3 x4 : Int32} {mi : Nat → Nat → Int32} (h0 : mi 67 4 = nI 40) : vh_C 106 [.ref 67, .int w, .int x2, .int x3, .int x4] (vh_K d mi ml) = some (some (.int (-1000003)), vh_K d mi ml) := by
  simp only [c106, e106_0, e106_1, e106_4, e106_6, e106_9, e106_11, e106_12, e106_13, e106_16, e106_20, e106_23, e106_24, e106_27, e106_29, e106_30, e106_31, e106_32, e106_33, e106_36, e106_37, e106_40, e106_42, e106_43, e106_46, e106_48, e106_49, e106_50, e106_51, e106_52, e106_53, e106_56, e106_58, e106_59, e106_62, e106_64, e106_65, e106_66, e106_67, e106_68, e106_69, e106_72, e106_74, e106_75, e106_78, e106_80, e106_81, e106_82, e106_83, e106_84, e106_85, e106_88, e106_90, e106_91, e106_94, e106_96, e106_97, e106_98, e106_99, e106_100, e106_103, e106_106, e106_107, e106_110, e106_112, e106_113, e106_114, e106_115, e106_118, e106_120, e106_121, e106_122, e106_123, e106_126, e106_128, e106_129, e106_130, e106_131, e106_134, e106_136, e106_138, e106_139, e106_140, e106_141, e106_144, e106_145, e106_146, e106_149, e106_150, e106_153, ok67, h0, show ¬ nI 40 < (40 : Int32) from by decide, if_false]
theorem l106_72 {w x2 x3 x4 : Int32} {t h a b : Nat → Int32} {n : Nat} (hn : n < 40) : ∀ (i : Nat) (mi : Nat → Nat → Int32), i ≤ n → mi 72 4 = nI n → mi 73 = shf t i n → mi 74 = shf h i n → mi 75 = shf a i n → mi 76 = shf b i n →
    vh_E 106 18 [some (.ref 72), some (.int w), some (.int x2), some (.int x3), some (.int x4), some (.int (nI i))] [] (vh_K d mi ml) = some (some (.int (nI (n + 1))), vh_K d (vh_sA (vh_sA (vh_sA (vh_sA (vh_sA mi 73 (insA t (lgp t w i) n w)) 74 (insA h (lgp t w i) n x2)) 75 (insA a (lgp t w i) n x3)) 76 (insA b (lgp t w i) n x4)) 72 (upd (mi 72) 4 (nI (n + 1)))) ml) := by
  intro i
  induction i with
  | zero =>
    intro mi hi h0 h1 h2 h3 h4
    have x1 : vh_ixa 73 (nI 0) = true := ixa (by rw [kd73]; omega) (by omega)
    have x2' : vh_ixa 74 (nI 0) = true := ixa (by rw [kd74]; omega) (by omega)
    have x3' : vh_ixa 75 (nI 0) = true := ixa (by rw [kd75]; omega) (by omega)
    have x4' : vh_ixa 76 (nI 0) = true := ixa (by rw [kd76]; omega) (by omega)
    have hc : (nI 0).toNatClampNeg = 0 := nI_clamp (by omega)
    rw [e106_18]
    simp only [e106_0, e106_1, e106_4, e106_6, e106_9, e106_11, e106_12, e106_13, e106_16, e106_20, e106_23, e106_24, e106_27, e106_29, e106_30, e106_31, e106_32, e106_33, e106_36, e106_37, e106_40, e106_42, e106_43, e106_46, e106_48, e106_49, e106_50, e106_51, e106_52, e106_53, e106_56, e106_58, e106_59, e106_62, e106_64, e106_65, e106_66, e106_67, e106_68, e106_69, e106_72, e106_74, e106_75, e106_78, e106_80, e106_81, e106_82, e106_83, e106_84, e106_85, e106_88, e106_90, e106_91, e106_94, e106_96, e106_97, e106_98, e106_99, e106_100, e106_103, e106_106, e106_107, e106_110, e106_112, e106_113, e106_114, e106_115, e106_118, e106_120, e106_121, e106_122, e106_123, e106_126, e106_128, e106_129, e106_130, e106_131, e106_134, e106_136, e106_138, e106_139, e106_140, e106_141, e106_144, e106_145, e106_146, e106_149, e106_150, e106_153, ok72, ok73, ok74, ok75, ok76, rf72_0, rf72_1, rf72_2, rf72_3, x1, x2', x3', x4', hc, show nI 0 ≤ (0 : Int32) from by decide, if_true, sAn, sAs, sAA, ups, upn, bkv_n, hlv_n, ne_eq, Nat.reduceEqDiff, Nat.reduceLT, Nat.reduceLeDiff, or_true, true_or, not_false_eq_true, h0, h1, h2, h3, h4, nI_1]
    rfl
  | succ i ih =>
    intro mi hi h0 h1 h2 h3 h4
    have x1 : vh_ixa 73 (nI (i + 1)) = true := ixa (by rw [kd73]; omega) (by omega)
    have x2' : vh_ixa 74 (nI (i + 1)) = true := ixa (by rw [kd74]; omega) (by omega)
    have x3' : vh_ixa 75 (nI (i + 1)) = true := ixa (by rw [kd75]; omega) (by omega)
    have x4' : vh_ixa 76 (nI (i + 1)) = true := ixa (by rw [kd76]; omega) (by omega)
    have y1 : vh_ixa 73 (nI i) = true := ixa (by rw [kd73]; omega) (by omega)
    have y2' : vh_ixa 74 (nI i) = true := ixa (by rw [kd74]; omega) (by omega)
    have y3' : vh_ixa 75 (nI i) = true := ixa (by rw [kd75]; omega) (by omega)
    have y4' : vh_ixa 76 (nI i) = true := ixa (by rw [kd76]; omega) (by omega)
    have hc : (nI (i + 1)).toNatClampNeg = i + 1 := nI_clamp (by omega)
    have hc' : (nI i).toNatClampNeg = i := nI_clamp (by omega)
    rw [e106_18]
    by_cases hw : w < t i
    · have hw' : ¬ t i ≤ w := Int32.not_le.mpr hw
      simp only [e106_0, e106_1, e106_4, e106_6, e106_9, e106_11, e106_12, e106_13, e106_16, e106_20, e106_23, e106_24, e106_27, e106_29, e106_30, e106_31, e106_32, e106_33, e106_36, e106_37, e106_40, e106_42, e106_43, e106_46, e106_48, e106_49, e106_50, e106_51, e106_52, e106_53, e106_56, e106_58, e106_59, e106_62, e106_64, e106_65, e106_66, e106_67, e106_68, e106_69, e106_72, e106_74, e106_75, e106_78, e106_80, e106_81, e106_82, e106_83, e106_84, e106_85, e106_88, e106_90, e106_91, e106_94, e106_96, e106_97, e106_98, e106_99, e106_100, e106_103, e106_106, e106_107, e106_110, e106_112, e106_113, e106_114, e106_115, e106_118, e106_120, e106_121, e106_122, e106_123, e106_126, e106_128, e106_129, e106_130, e106_131, e106_134, e106_136, e106_138, e106_139, e106_140, e106_141, e106_144, e106_145, e106_146, e106_149, e106_150, e106_153, ok72, ok73, ok74, ok75, ok76, rf72_0, rf72_1, rf72_2, rf72_3, x1, x2', x3', x4', y1, y2', y3', y4', hc, hc', if_neg (nI_nle (show 0 < i + 1 by omega) (show i + 1 < 2 ^ 31 by omega)), sAn, sAs, sAA, ups, upn, bkv_n, hlv_n, ne_eq, Nat.reduceEqDiff, Nat.reduceLT, Nat.reduceLeDiff, or_true, true_or, not_false_eq_true, nI_pred, h0, h1, h2, h3, h4, shf_r, hw', if_false, pk_m1, shf_s hi]
      rw [ih _ (by omega) (by simp only [sAn, sAs, sAA, ups, upn, bkv_n, hlv_n, ne_eq, Nat.reduceEqDiff, Nat.reduceLT, Nat.reduceLeDiff, or_true, true_or, not_false_eq_true]; exact h0) (by simp only [sAn, sAs, sAA, ups, upn, bkv_n, hlv_n, ne_eq, Nat.reduceEqDiff, Nat.reduceLT, Nat.reduceLeDiff, or_true, true_or, not_false_eq_true]) (by simp only [sAn, sAs, sAA, ups, upn, bkv_n, hlv_n, ne_eq, Nat.reduceEqDiff, Nat.reduceLT, Nat.reduceLeDiff, or_true, true_or, not_false_eq_true]) (by simp only [sAn, sAs, sAA, ups, upn, bkv_n, hlv_n, ne_eq, Nat.reduceEqDiff, Nat.reduceLT, Nat.reduceLeDiff, or_true, true_or, not_false_eq_true]) (by simp only [sAn, sAs, sAA, ups, upn, bkv_n, hlv_n, ne_eq, Nat.reduceEqDiff, Nat.reduceLT, Nat.reduceLeDiff, or_true, true_or, not_false_eq_true])]
      have e : lgp t w (i + 1) = lgp t w i := if_pos hw
      rw [e]
      congr 3
      funext c
      unfold vh_sA
      by_cases c1 : c = 72
      · subst c1; rfl
      by_cases c2 : c = 76
      · subst c2; rfl
      by_cases c3 : c = 75
      · subst c3; rfl
      by_cases c4 : c = 74
      · subst c4; rfl
      by_cases c5 : c = 73
      · subst c5; rfl
      simp only [c1, c2, c3, c4, c5, if_false]
    · have hw' : t i ≤ w := nlt hw
      simp only [e106_0, e106_1, e106_4, e106_6, e106_9, e106_11, e106_12, e106_13, e106_16, e106_20, e106_23, e106_24, e106_27, e106_29, e106_30, e106_31, e106_32, e106_33, e106_36, e106_37, e106_40, e106_42, e106_43, e106_46, e106_48, e106_49, e106_50, e106_51, e106_52, e106_53, e106_56, e106_58, e106_59, e106_62, e106_64, e106_65, e106_66, e106_67, e106_68, e106_69, e106_72, e106_74, e106_75, e106_78, e106_80, e106_81, e106_82, e106_83, e106_84, e106_85, e106_88, e106_90, e106_91, e106_94, e106_96, e106_97, e106_98, e106_99, e106_100, e106_103, e106_106, e106_107, e106_110, e106_112, e106_113, e106_114, e106_115, e106_118, e106_120, e106_121, e106_122, e106_123, e106_126, e106_128, e106_129, e106_130, e106_131, e106_134, e106_136, e106_138, e106_139, e106_140, e106_141, e106_144, e106_145, e106_146, e106_149, e106_150, e106_153, ok72, ok73, ok74, ok75, ok76, rf72_0, rf72_1, rf72_2, rf72_3, x1, x2', x3', x4', y1, y2', y3', y4', hc, hc', if_neg (nI_nle (show 0 < i + 1 by omega) (show i + 1 < 2 ^ 31 by omega)), sAn, sAs, sAA, ups, upn, bkv_n, hlv_n, ne_eq, Nat.reduceEqDiff, Nat.reduceLT, Nat.reduceLeDiff, or_true, true_or, not_false_eq_true, nI_pred, h0, h1, h2, h3, h4, shf_r, hw', if_true, nI_1]
      have e : lgp t w (i + 1) = i + 1 := if_neg hw
      rw [e]
      rfl
theorem s106_72 {w x2 x3 x4 : Int32} {n : Nat} {mi : Nat → Nat → Int32} (hn : n < 40) (h0 : mi 72 4 = nI n) : vh_C 106 [.ref 72, .int w, .int x2, .int x3, .int x4] (vh_K d mi ml) = some (some (.int (nI (n + 1))), vh_K d (vh_sA (vh_sA (vh_sA (vh_sA (vh_sA mi 73 (insA (mi 73) (lgp (mi 73) w n) n w)) 74 (insA (mi 74) (lgp (mi 73) w n) n x2)) 75 (insA (mi 75) (lgp (mi 73) w n) n x3)) 76 (insA (mi 76) (lgp (mi 73) w n) n x4)) 72 (upd (mi 72) 4 (nI (n + 1)))) ml) := by
  have h40 : nI n < 40 := nI_lt (b := 40) hn (by decide)
  simp only [c106, e106_0, e106_1, e106_4, e106_6, e106_9, e106_11, e106_12, e106_13, e106_16, e106_20, e106_23, e106_24, e106_27, e106_29, e106_30, e106_31, e106_32, e106_33, e106_36, e106_37, e106_40, e106_42, e106_43, e106_46, e106_48, e106_49, e106_50, e106_51, e106_52, e106_53, e106_56, e106_58, e106_59, e106_62, e106_64, e106_65, e106_66, e106_67, e106_68, e106_69, e106_72, e106_74, e106_75, e106_78, e106_80, e106_81, e106_82, e106_83, e106_84, e106_85, e106_88, e106_90, e106_91, e106_94, e106_96, e106_97, e106_98, e106_99, e106_100, e106_103, e106_106, e106_107, e106_110, e106_112, e106_113, e106_114, e106_115, e106_118, e106_120, e106_121, e106_122, e106_123, e106_126, e106_128, e106_129, e106_130, e106_131, e106_134, e106_136, e106_138, e106_139, e106_140, e106_141, e106_144, e106_145, e106_146, e106_149, e106_150, e106_153, ok72, h0, h40, if_true]
  exact l106_72 hn n mi (Nat.le_refl _) h0 shf_0.symm shf_0.symm shf_0.symm shf_0.symm
theorem f106_72 {w x2 x3 x4 : Int32} {mi : Nat → Nat → Int32} (h0 : mi 72 4 = nI 40) : vh_C 106 [.ref 72, .int w, .int x2, .int x3, .int x4] (vh_K d mi ml) = some (some (.int (-1000003)), vh_K d mi ml) := by
  simp only [c106, e106_0, e106_1, e106_4, e106_6, e106_9, e106_11, e106_12, e106_13, e106_16, e106_20, e106_23, e106_24, e106_27, e106_29, e106_30, e106_31, e106_32, e106_33, e106_36, e106_37, e106_40, e106_42, e106_43, e106_46, e106_48, e106_49, e106_50, e106_51, e106_52, e106_53, e106_56, e106_58, e106_59, e106_62, e106_64, e106_65, e106_66, e106_67, e106_68, e106_69, e106_72, e106_74, e106_75, e106_78, e106_80, e106_81, e106_82, e106_83, e106_84, e106_85, e106_88, e106_90, e106_91, e106_94, e106_96, e106_97, e106_98, e106_99, e106_100, e106_103, e106_106, e106_107, e106_110, e106_112, e106_113, e106_114, e106_115, e106_118, e106_120, e106_121, e106_122, e106_123, e106_126, e106_128, e106_129, e106_130, e106_131, e106_134, e106_136, e106_138, e106_139, e106_140, e106_141, e106_144, e106_145, e106_146, e106_149, e106_150, e106_153, ok72, h0, show ¬ nI 40 < (40 : Int32) from by decide, if_false]
theorem l106_77 {w x2 x3 x4 : Int32} {t h a b : Nat → Int32} {n : Nat} (hn : n < 40) : ∀ (i : Nat) (mi : Nat → Nat → Int32), i ≤ n → mi 77 4 = nI n → mi 78 = shf t i n → mi 79 = shf h i n → mi 80 = shf a i n → mi 81 = shf b i n →
    vh_E 106 18 [some (.ref 77), some (.int w), some (.int x2), some (.int x3), some (.int x4), some (.int (nI i))] [] (vh_K d mi ml) = some (some (.int (nI (n + 1))), vh_K d (vh_sA (vh_sA (vh_sA (vh_sA (vh_sA mi 78 (insA t (lgp t w i) n w)) 79 (insA h (lgp t w i) n x2)) 80 (insA a (lgp t w i) n x3)) 81 (insA b (lgp t w i) n x4)) 77 (upd (mi 77) 4 (nI (n + 1)))) ml) := by
  intro i
  induction i with
  | zero =>
    intro mi hi h0 h1 h2 h3 h4
    have x1 : vh_ixa 78 (nI 0) = true := ixa (by rw [kd78]; omega) (by omega)
    have x2' : vh_ixa 79 (nI 0) = true := ixa (by rw [kd79]; omega) (by omega)
    have x3' : vh_ixa 80 (nI 0) = true := ixa (by rw [kd80]; omega) (by omega)
    have x4' : vh_ixa 81 (nI 0) = true := ixa (by rw [kd81]; omega) (by omega)
    have hc : (nI 0).toNatClampNeg = 0 := nI_clamp (by omega)
    rw [e106_18]
    simp only [e106_0, e106_1, e106_4, e106_6, e106_9, e106_11, e106_12, e106_13, e106_16, e106_20, e106_23, e106_24, e106_27, e106_29, e106_30, e106_31, e106_32, e106_33, e106_36, e106_37, e106_40, e106_42, e106_43, e106_46, e106_48, e106_49, e106_50, e106_51, e106_52, e106_53, e106_56, e106_58, e106_59, e106_62, e106_64, e106_65, e106_66, e106_67, e106_68, e106_69, e106_72, e106_74, e106_75, e106_78, e106_80, e106_81, e106_82, e106_83, e106_84, e106_85, e106_88, e106_90, e106_91, e106_94, e106_96, e106_97, e106_98, e106_99, e106_100, e106_103, e106_106, e106_107, e106_110, e106_112, e106_113, e106_114, e106_115, e106_118, e106_120, e106_121, e106_122, e106_123, e106_126, e106_128, e106_129, e106_130, e106_131, e106_134, e106_136, e106_138, e106_139, e106_140, e106_141, e106_144, e106_145, e106_146, e106_149, e106_150, e106_153, ok77, ok78, ok79, ok80, ok81, rf77_0, rf77_1, rf77_2, rf77_3, x1, x2', x3', x4', hc, show nI 0 ≤ (0 : Int32) from by decide, if_true, sAn, sAs, sAA, ups, upn, bkv_n, hlv_n, ne_eq, Nat.reduceEqDiff, Nat.reduceLT, Nat.reduceLeDiff, or_true, true_or, not_false_eq_true, h0, h1, h2, h3, h4, nI_1]
    rfl
  | succ i ih =>
    intro mi hi h0 h1 h2 h3 h4
    have x1 : vh_ixa 78 (nI (i + 1)) = true := ixa (by rw [kd78]; omega) (by omega)
    have x2' : vh_ixa 79 (nI (i + 1)) = true := ixa (by rw [kd79]; omega) (by omega)
    have x3' : vh_ixa 80 (nI (i + 1)) = true := ixa (by rw [kd80]; omega) (by omega)
    have x4' : vh_ixa 81 (nI (i + 1)) = true := ixa (by rw [kd81]; omega) (by omega)
    have y1 : vh_ixa 78 (nI i) = true := ixa (by rw [kd78]; omega) (by omega)
    have y2' : vh_ixa 79 (nI i) = true := ixa (by rw [kd79]; omega) (by omega)
    have y3' : vh_ixa 80 (nI i) = true := ixa (by rw [kd80]; omega) (by omega)
    have y4' : vh_ixa 81 (nI i) = true := ixa (by rw [kd81]; omega) (by omega)
    have hc : (nI (i + 1)).toNatClampNeg = i + 1 := nI_clamp (by omega)
    have hc' : (nI i).toNatClampNeg = i := nI_clamp (by omega)
    rw [e106_18]
    by_cases hw : w < t i
    · have hw' : ¬ t i ≤ w := Int32.not_le.mpr hw
      simp only [e106_0, e106_1, e106_4, e106_6, e106_9, e106_11, e106_12, e106_13, e106_16, e106_20, e106_23, e106_24, e106_27, e106_29, e106_30, e106_31, e106_32, e106_33, e106_36, e106_37, e106_40, e106_42, e106_43, e106_46, e106_48, e106_49, e106_50, e106_51, e106_52, e106_53, e106_56, e106_58, e106_59, e106_62, e106_64, e106_65, e106_66, e106_67, e106_68, e106_69, e106_72, e106_74, e106_75, e106_78, e106_80, e106_81, e106_82, e106_83, e106_84, e106_85, e106_88, e106_90, e106_91, e106_94, e106_96, e106_97, e106_98, e106_99, e106_100, e106_103, e106_106, e106_107, e106_110, e106_112, e106_113, e106_114, e106_115, e106_118, e106_120, e106_121, e106_122, e106_123, e106_126, e106_128, e106_129, e106_130, e106_131, e106_134, e106_136, e106_138, e106_139, e106_140, e106_141, e106_144, e106_145, e106_146, e106_149, e106_150, e106_153, ok77, ok78, ok79, ok80, ok81, rf77_0, rf77_1, rf77_2, rf77_3, x1, x2', x3', x4', y1, y2', y3', y4', hc, hc', if_neg (nI_nle (show 0 < i + 1 by omega) (show i + 1 < 2 ^ 31 by omega)), sAn, sAs, sAA, ups, upn, bkv_n, hlv_n, ne_eq, Nat.reduceEqDiff, Nat.reduceLT, Nat.reduceLeDiff, or_true, true_or, not_false_eq_true, nI_pred, h0, h1, h2, h3, h4, shf_r, hw', if_false, pk_m1, shf_s hi]
      rw [ih _ (by omega) (by simp only [sAn, sAs, sAA, ups, upn, bkv_n, hlv_n, ne_eq, Nat.reduceEqDiff, Nat.reduceLT, Nat.reduceLeDiff, or_true, true_or, not_false_eq_true]; exact h0) (by simp only [sAn, sAs, sAA, ups, upn, bkv_n, hlv_n, ne_eq, Nat.reduceEqDiff, Nat.reduceLT, Nat.reduceLeDiff, or_true, true_or, not_false_eq_true]) (by simp only [sAn, sAs, sAA, ups, upn, bkv_n, hlv_n, ne_eq, Nat.reduceEqDiff, Nat.reduceLT, Nat.reduceLeDiff, or_true, true_or, not_false_eq_true]) (by simp only [sAn, sAs, sAA, ups, upn, bkv_n, hlv_n, ne_eq, Nat.reduceEqDiff, Nat.reduceLT, Nat.reduceLeDiff, or_true, true_or, not_false_eq_true]) (by simp only [sAn, sAs, sAA, ups, upn, bkv_n, hlv_n, ne_eq, Nat.reduceEqDiff, Nat.reduceLT, Nat.reduceLeDiff, or_true, true_or, not_false_eq_true])]
      have e : lgp t w (i + 1) = lgp t w i := if_pos hw
      rw [e]
      congr 3
      funext c
      unfold vh_sA
      by_cases c1 : c = 77
      · subst c1; rfl
      by_cases c2 : c = 81
      · subst c2; rfl
      by_cases c3 : c = 80
      · subst c3; rfl
      by_cases c4 : c = 79
      · subst c4; rfl
      by_cases c5 : c = 78
      · subst c5; rfl
      simp only [c1, c2, c3, c4, c5, if_false]
    · have hw' : t i ≤ w := nlt hw
      simp only [e106_0, e106_1, e106_4, e106_6, e106_9, e106_11, e106_12, e106_13, e106_16, e106_20, e106_23, e106_24, e106_27, e106_29, e106_30, e106_31, e106_32, e106_33, e106_36, e106_37, e106_40, e106_42, e106_43, e106_46, e106_48, e106_49, e106_50, e106_51, e106_52, e106_53, e106_56, e106_58, e106_59, e106_62, e106_64, e106_65, e106_66, e106_67, e106_68, e106_69, e106_72, e106_74, e106_75, e106_78, e106_80, e106_81, e106_82, e106_83, e106_84, e106_85, e106_88, e106_90, e106_91, e106_94, e106_96, e106_97, e106_98, e106_99, e106_100, e106_103, e106_106, e106_107, e106_110, e106_112, e106_113, e106_114, e106_115, e106_118, e106_120, e106_121, e106_122, e106_123, e106_126, e106_128, e106_129, e106_130, e106_131, e106_134, e106_136, e106_138, e106_139, e106_140, e106_141, e106_144, e106_145, e106_146, e106_149, e106_150, e106_153, ok77, ok78, ok79, ok80, ok81, rf77_0, rf77_1, rf77_2, rf77_3, x1, x2', x3', x4', y1, y2', y3', y4', hc, hc', if_neg (nI_nle (show 0 < i + 1 by omega) (show i + 1 < 2 ^ 31 by omega)), sAn, sAs, sAA, ups, upn, bkv_n, hlv_n, ne_eq, Nat.reduceEqDiff, Nat.reduceLT, Nat.reduceLeDiff, or_true, true_or, not_false_eq_true, nI_pred, h0, h1, h2, h3, h4, shf_r, hw', if_true, nI_1]
      have e : lgp t w (i + 1) = i + 1 := if_neg hw
      rw [e]
      rfl
theorem s106_77 {w x2 x3 x4 : Int32} {n : Nat} {mi : Nat → Nat → Int32} (hn : n < 40) (h0 : mi 77 4 = nI n) : vh_C 106 [.ref 77, .int w, .int x2, .int x3, .int x4] (vh_K d mi ml) = some (some (.int (nI (n + 1))), vh_K d (vh_sA (vh_sA (vh_sA (vh_sA (vh_sA mi 78 (insA (mi 78) (lgp (mi 78) w n) n w)) 79 (insA (mi 79) (lgp (mi 78) w n) n x2)) 80 (insA (mi 80) (lgp (mi 78) w n) n x3)) 81 (insA (mi 81) (lgp (mi 78) w n) n x4)) 77 (upd (mi 77) 4 (nI (n + 1)))) ml) := by
  have h40 : nI n < 40 := nI_lt (b := 40) hn (by decide)
  simp only [c106, e106_0, e106_1, e106_4, e106_6, e106_9, e106_11, e106_12, e106_13, e106_16, e106_20, e106_23, e106_24, e106_27, e106_29, e106_30, e106_31, e106_32, e106_33, e106_36, e106_37, e106_40, e106_42, e106_43, e106_46, e106_48, e106_49, e106_50, e106_51, e106_52, e106_53, e106_56, e106_58, e106_59, e106_62, e106_64, e106_65, e106_66, e106_67, e106_68, e106_69, e106_72, e106_74, e106_75, e106_78, e106_80, e106_81, e106_82, e106_83, e106_84, e106_85, e106_88, e106_90, e106_91, e106_94, e106_96, e106_97, e106_98, e106_99, e106_100, e106_103, e106_106, e106_107, e106_110, e106_112, e106_113, e106_114, e106_115, e106_118, e106_120, e106_121, e106_122, e106_123, e106_126, e106_128, e106_129, e106_130, e106_131, e106_134, e106_136, e106_138, e106_139, e106_140, e106_141, e106_144, e106_145, e106_146, e106_149, e106_150, e106_153, ok77, h0, h40, if_true]
  exact l106_77 hn n mi (Nat.le_refl _) h0 shf_0.symm shf_0.symm shf_0.symm shf_0.symm
theorem f106_77 {w x2 x3 x4 : Int32} {mi : Nat → Nat → Int32} (h0 : mi 77 4 = nI 40) : vh_C 106 [.ref 77, .int w, .int x2, .int x3, .int x4] (vh_K d mi ml) = some (some (.int (-1000003)), vh_K d mi ml) := by
  simp only [c106, e106_0, e106_1, e106_4, e106_6, e106_9, e106_11, e106_12, e106_13, e106_16, e106_20, e106_23, e106_24, e106_27, e106_29, e106_30, e106_31, e106_32, e106_33, e106_36, e106_37, e106_40, e106_42, e106_43, e106_46, e106_48, e106_49, e106_50, e106_51, e106_52, e106_53, e106_56, e106_58, e106_59, e106_62, e106_64, e106_65, e106_66, e106_67, e106_68, e106_69, e106_72, e106_74, e106_75, e106_78, e106_80, e106_81, e106_82, e106_83, e106_84, e106_85, e106_88, e106_90, e106_91, e106_94, e106_96, e106_97, e106_98, e106_99, e106_100, e106_103, e106_106, e106_107, e106_110, e106_112, e106_113, e106_114, e106_115, e106_118, e106_120, e106_121, e106_122, e106_123, e106_126, e106_128, e106_129, e106_130, e106_131, e106_134, e106_136, e106_138, e106_139, e106_140, e106_141, e106_144, e106_145, e106_146, e106_149, e106_150, e106_153, ok77, h0, show ¬ nI 40 < (40 : Int32) from by decide, if_false]
end
/-- lists -/
theorem lgIns_app {x : Int32 × Int32 × Int32 × Int32} : ∀ {l1 l2 : List (Int32 × Int32 × Int32 × Int32)}, (∀ y ∈ l1, ¬ x.1 < y.1) → (∀ y ∈ l2, x.1 < y.1) → lgIns x (l1 ++ l2) = l1 ++ x :: l2 := by
  intro l1
  induction l1 with
  | nil =>
    intro l2 _ h2
    cases l2 with
    | nil => rfl
    | cons y l2 =>
      show (if x.1 < y.1 then _ else _) = _
      rw [if_pos (h2 y List.mem_cons_self)]
      rfl
  | cons y l1 ih =>
    intro l2 h1 h2
    show (if x.1 < y.1 then _ else y :: lgIns x (l1 ++ l2)) = _
    rw [if_neg (h1 y List.mem_cons_self), ih (fun z hz => h1 z (List.mem_cons_of_mem _ hz)) h2]
    rfl
theorem lgL_len {n : Nat} {t h a b : Nat → Int32} : (lgL n t h a b).length = n := by simp [lgL]
theorem lgL_get {n i : Nat} {t h a b : Nat → Int32} (hi : i < n) : (lgL n t h a b)[i]? = some (t i, h i, a i, b i) := by simp [lgL, hi]
theorem lgL_mem {n : Nat} {t h a b : Nat → Int32} {y : Int32 × Int32 × Int32 × Int32} (hy : y ∈ lgL n t h a b) : ∃ i, i < n ∧ y = (t i, h i, a i, b i) := by
  obtain ⟨i, hi, e⟩ := List.mem_map.mp hy
  exact ⟨i, List.mem_range.mp hi, e.symm⟩
theorem lgL_split {n p : Nat} {t h a b : Nat → Int32} (hp : p ≤ n) : lgL n t h a b = lgL p t h a b ++ (List.range (n - p)).map (fun i => (t (p + i), h (p + i), a (p + i), b (p + i))) := by
  apply List.ext_getElem?
  intro c
  by_cases hc : c < n
  · rw [lgL_get hc]
    by_cases hcp : c < p
    · rw [List.getElem?_append_left (by rw [lgL_len]; exact hcp), lgL_get hcp]
    · rw [List.getElem?_append_right (by rw [lgL_len]; omega), lgL_len]
      have : c - p < n - p := by omega
      simp only [List.getElem?_map, List.getElem?_range this, Option.map_some]
      rw [show p + (c - p) = c by omega]
  · rw [List.getElem?_eq_none (by rw [lgL_len]; omega), List.getElem?_eq_none (by rw [List.length_append, lgL_len]; simp; omega)]
theorem insA_p {f : Nat → Int32} {p n : Nat} {v : Int32} : insA f p n v p = v := ups
theorem insA_lo {f : Nat → Int32} {p n c : Nat} {v : Int32} (h : c < p) : insA f p n v c = f c := by
  unfold insA
  rw [upn (by omega)]
  unfold shf
  rw [if_neg (by omega)]
theorem insA_hi {f : Nat → Int32} {p n c : Nat} {v : Int32} (h : p ≤ c) (h2 : c < n) : insA f p n v (c + 1) = f c := by
  unfold insA
  rw [upn (by omega)]
  unfold shf
  rw [if_pos (by omega)]
  rfl
theorem lgL_insA {n p : Nat} {t h a b : Nat → Int32} {w x2 x3 x4 : Int32} (hp : p ≤ n) : lgL (n + 1) (insA t p n w) (insA h p n x2) (insA a p n x3) (insA b p n x4) = lgL p t h a b ++ (w, x2, x3, x4) :: (List.range (n - p)).map (fun i => (t (p + i), h (p + i), a (p + i), b (p + i))) := by
  apply List.ext_getElem?
  intro c
  by_cases hc : c < n + 1
  · rw [lgL_get hc]
    by_cases hcp : c < p
    · rw [List.getElem?_append_left (by rw [lgL_len]; exact hcp), lgL_get hcp, insA_lo hcp, insA_lo hcp, insA_lo hcp, insA_lo hcp]
    · rw [List.getElem?_append_right (by rw [lgL_len]; omega), lgL_len]
      by_cases hcp2 : c = p
      · subst hcp2
        rw [Nat.sub_self, insA_p, insA_p, insA_p, insA_p]
        rfl
      · obtain ⟨c', rfl⟩ : ∃ c', c = c' + 1 := ⟨c - 1, by omega⟩
        rw [insA_hi (by omega) (by omega), insA_hi (by omega) (by omega), insA_hi (by omega) (by omega), insA_hi (by omega) (by omega)]
        have : c' - p < n - p := by omega
        rw [show c' + 1 - p = (c' - p) + 1 by omega]
        simp only [List.getElem?_cons_succ, List.getElem?_map, List.getElem?_range this, Option.map_some]
        rw [show p + (c' - p) = c' by omega]
  · rw [List.getElem?_eq_none (by rw [lgL_len]; omega), List.getElem?_eq_none (by rw [List.length_append, lgL_len]; simp; omega)]
theorem lgL_ins {n : Nat} {t h a b : Nat → Int32} {w x2 x3 x4 : Int32} (hs : ∀ i j, i ≤ j → j < n → t i ≤ t j) : lgL (n + 1) (insA t (lgp t w n) n w) (insA h (lgp t w n) n x2) (insA a (lgp t w n) n x3) (insA b (lgp t w n) n x4) = lgIns (w, x2, x3, x4) (lgL n t h a b) := by
  have hp := lgp_le t w n
  rw [lgL_insA hp, lgL_split hp, lgIns_app]
  · intro y hy
    obtain ⟨i, hi, rfl⟩ := lgL_mem hy
    exact lgp_lo t w n hs i hi
  · intro y hy
    obtain ⟨i, hi, rfl⟩ := List.mem_map.mp hy
    have hi := List.mem_range.mp hi
    exact lgp_hi t w n _ (Nat.le_add_right _ _) (by omega)
theorem lgIns_mem {x y : Int32 × Int32 × Int32 × Int32} : ∀ {l : List (Int32 × Int32 × Int32 × Int32)}, y ∈ lgIns x l → y = x ∨ y ∈ l := by
  intro l
  induction l with
  | nil => intro h; exact Or.inl (List.mem_singleton.mp h)
  | cons z l ih =>
    intro h
    unfold lgIns at h
    split at h
    · rcases List.mem_cons.mp h with q | q
      · exact Or.inl q
      · exact Or.inr q
    · rcases List.mem_cons.mp h with q | q
      · exact Or.inr (by rw [q]; exact List.mem_cons_self)
      · rcases ih q with q | q
        · exact Or.inl q
        · exact Or.inr (List.mem_cons_of_mem _ q)
def lgS (l : List (Int32 × Int32 × Int32 × Int32)) : Prop := l.Pairwise (fun x y => x.1 ≤ y.1)
theorem lgIns_S {x : Int32 × Int32 × Int32 × Int32} : ∀ {l : List (Int32 × Int32 × Int32 × Int32)}, lgS l → lgS (lgIns x l) := by
  intro l
  induction l with
  | nil => intro _; exact List.pairwise_singleton _ _
  | cons z l ih =>
    intro h
    have h' := List.pairwise_cons.mp h
    unfold lgIns
    split
    · rename_i hx
      refine List.pairwise_cons.mpr ⟨fun y hy => ?_, h⟩
      rcases List.mem_cons.mp hy with q | q
      · rw [q]; exact Int32.le_of_lt hx
      · exact Int32.le_trans (Int32.le_of_lt hx) (h'.1 y q)
    · rename_i hx
      refine List.pairwise_cons.mpr ⟨fun y hy => ?_, ih h'.2⟩
      rcases lgIns_mem hy with q | q
      · rw [q]; exact nlt hx
      · exact h'.1 y q
theorem lgSort_snoc {x : Int32 × Int32 × Int32 × Int32} {l : List (Int32 × Int32 × Int32 × Int32)} : lgSort (l ++ [x]) = lgIns x (lgSort l) := by
  unfold lgSort
  rw [List.foldl_append]
  rfl
theorem lgSort_S (l : List (Int32 × Int32 × Int32 × Int32)) : lgS (lgSort l) := by
  have : ∀ (l a : List (Int32 × Int32 × Int32 × Int32)), lgS a → lgS (l.foldl (fun a x => lgIns x a) a) := by
    intro l
    induction l with
    | nil => intro a h; exact h
    | cons x l ih => intro a h; exact ih _ (lgIns_S h)
  exact this l [] List.Pairwise.nil
theorem lgL_sorted {n : Nat} {t h a b : Nat → Int32} (hs : lgS (lgL n t h a b)) : ∀ i j, i ≤ j → j < n → t i ≤ t j := by
  intro i j hij hj
  rcases Nat.lt_or_eq_of_le hij with q | q
  · have := List.pairwise_iff_getElem.mp hs i j (by rw [lgL_len]; omega) (by rw [lgL_len]; omega) q
    have e1 : (lgL n t h a b)[i]'(by rw [lgL_len]; omega) = (t i, h i, a i, b i) := by
      have := lgL_get (n := n) (t := t) (h := h) (a := a) (b := b) (show i < n by omega)
      exact (List.getElem?_eq_some_iff.mp this).2
    have e2 : (lgL n t h a b)[j]'(by rw [lgL_len]; omega) = (t j, h j, a j, b j) := by
      have := lgL_get (n := n) (t := t) (h := h) (a := a) (b := b) hj
      exact (List.getElem?_eq_some_iff.mp this).2
    rw [e1, e2] at this
    exact this
  · rw [q]; exact Int32.le_refl _
