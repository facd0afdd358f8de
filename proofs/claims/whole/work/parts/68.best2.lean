/-! ===== the reference: all sets of guesses ===== -/
theorem b3_sm : ∀ p, p < 12 → ((nI p &&& 31).toBitVec.smod 32).toNat = p := by decide +kernel
theorem b3_bit {m k : Nat} (hk : k < 12) : (nI m >>> (nI k &&& 31)) &&& 1 = if m.testBit k then 1 else 0 := by
  have e : b3 (nI m >>> (nI k &&& 31)) 0 = m.testBit k := by
    unfold b3
    rw [Int32.toBitVec_shiftRight]
    show ((nI m).toBitVec.sshiftRight ((nI k &&& 31).toBitVec.smod 32).toNat).getLsbD 0 = _
    rw [b3_sm k hk, BitVec.getLsbD_sshiftRight]
    have := b3_n (m := m) (i := k) (by omega)
    unfold b3 at this
    rw [Nat.add_zero, if_pos (by omega), this]
    simp
  have o : ∀ i, i < 32 → b3 1 i = decide (i = 0) := by decide +kernel
  apply b3_ext
  intro i hi
  rw [b3_and, o i hi]
  by_cases c : i = 0
  · subst c
    rw [e, decide_eq_true rfl, Bool.and_true]
    cases m.testBit k
    · rw [if_neg (by decide), b3_0]
    · rw [if_pos rfl, o 0 (by omega)]
      rfl
  · rw [decide_eq_false c, Bool.and_false]
    cases m.testBit k
    · rw [if_neg (by decide), b3_0]
    · rw [if_pos rfl, o i hi, decide_eq_false c]
theorem b3_pw : ∀ n, n < 13 → (1 : Int32) <<< (nI n &&& 31) = nI (2 ^ n) := by decide +kernel
theorem lc_bit {T : Int64} {q : Nat} (hq : q < 64) : lg_cmp (T &&& ((1 : Int64) <<< ((nI q).toInt64 &&& 63))) 0 = 0 ↔ bl T q = false := by
  rw [bl_cmp0]
  constructor
  · intro h
    have t := congrArg (fun z => bl z q) h
    simp only [bl_and, bl_0, bl_one hq] at t
    simpa using t
  · intro h
    apply bl_ext
    intro i hi
    rw [bl_and, bl_0, bl_one hq]
    by_cases c : i = q
    · rw [c, h, Bool.false_and]
    · rw [decide_eq_false c, Bool.and_false]
theorem sgm_bd {z : Nat → Int} {m : Nat} : ∀ n, (∀ k, k < n → -60 ≤ z k ∧ z k ≤ 180) → -60 * (n : Int) ≤ sgm z m n ∧ sgm z m n ≤ 180 * (n : Int)
  | 0, _ => by simp [sgm]
  | n + 1, h => by
    have ih := sgm_bd (z := z) (m := m) n fun k hk => h k (by omega)
    have := h n (by omega)
    simp only [sgm]
    split <;> omega
theorem sgm_0 {z : Nat → Int} : ∀ n, sgm z 0 n = 0
  | 0 => rfl
  | n + 1 => by
    simp only [sgm]
    rw [sgm_0 n, Nat.zero_testBit, if_neg (by decide)]
    rfl
/-- the pages of the chosen ones of the first k -/
def uB (pk : Nat → List Nat) (m x : Nat) : Nat → Bool
  | 0 => false
  | k + 1 => uB pk m x k || (m.testBit k && decide (x ∈ pk k))
theorem uB_iff {pk : Nat → List Nat} {m x : Nat} : ∀ k, uB pk m x k = true ↔ ∃ i, i < k ∧ m.testBit i = true ∧ x ∈ pk i
  | 0 => by simp [uB]
  | k + 1 => by
    simp only [uB, Bool.or_eq_true, Bool.and_eq_true, decide_eq_true_eq, uB_iff k]
    constructor
    · rintro (⟨i, h1, h2⟩ | ⟨h1, h2⟩)
      · exact ⟨i, by omega, h2⟩
      · exact ⟨k, by omega, h1, h2⟩
    · rintro ⟨i, h1, h2⟩
      by_cases e : i = k
      · exact Or.inr (e ▸ h2)
      · exact Or.inl ⟨i, by omega, h2⟩
/-- what is known of the k-th of the compared guesses -/
def bgK (I : Nat → Nat → Int32) (pk : Nat → List Nat) (sc : Nat → Int32) (k g : Nat) : Prop := g < 40 ∧ I 95 k = nI g ∧ gu I g (pk k) ∧ I 93 g = sc k ∧ (pk k).Nodup ∧ (∀ q ∈ pk k, q < 40) ∧ (pk k).length ≤ 12
section T68
variable {d L : Nat} {I : Nat → Nat → Int32} {J : Nat → Nat → Int64} {p : Nat → Nat} {Q : Option Value → am_M → Prop} {a bst mst sm : Int32} {n m : Nat} {pk : Nat → List Nat} {sc : Nat → Int32}
theorem lp_bj {k g : Nat} (hk : k < 12) (hb : m.testBit k = true) (hg : bgK I pk sc k g) (U : Nat → Bool) (can : Bool) (kk : ∀ T' o13 o14, (∀ x, x < 64 → bl T' x = (U x || decide (x ∈ pk k))) → E me_X8_bestGuesses d L 161 [some (.ref 82), some (.int a), some (.int (nI n)), some (.int bst), some (.int mst), some (.int (nI m)), some (.long T'), none, some (.int sm), some (.int (bI (can && !anB U (pk k) (pk k).length))), some (.int (nI k)), some (.int (nI g)), some (.int (nI (pk k).length)), o13, o14] [] I J p Q) : ∀ (r j : Nat) (T : Int64) (o13 o14 : Option Value), j + r = (pk k).length → (∀ x, x < 64 → bl T x = (U x || decide (x ∈ (pk k).take j))) → E me_X8_bestGuesses d L 86 [some (.ref 82), some (.int a), some (.int (nI n)), some (.int bst), some (.int mst), some (.int (nI m)), some (.long T), none, some (.int sm), some (.int (bI (can && !anB U (pk k) j))), some (.int (nI k)), some (.int (nI g)), some (.int (nI j)), o13, o14] [] I J p Q
  | 0, j, T, o13, o14, hj, hT => by
    have e : j = (pk k).length := by omega
    subst e
    rw [List.take_length] at hT
    have hl := hg.2.2.2.2.2.2
    have g1 := hg.1
    refine ev_iload (pc := 86) dX8_bestGuesses_86 rfl (ev_aload_n (pc := 88) dX8_bestGuesses_88 rfl (ev_getr (pc := 89) kF_8_31 dX8_bestGuesses_89 rfl rfl rfl (ev_iload (pc := 92) dX8_bestGuesses_92 rfl (ev_iald (pc := 94) (i := g) dX8_bestGuesses_94 rfl (rfl) (by omega) rfl (ev_ncmp_ge (pc := 95) 161 ((pk k).length) ((pk k).length) dX8_bestGuesses_95 (by decide) (rfl) (hg.2.2.1.1) (by omega) (by omega) (kf := fun c => absurd c (by omega)) (kt := fun c95 => ?_))))))
    exact kk T _ _ hT
  | r + 1, j, T, o13, o14, hj, hT => by
    obtain ⟨g1, g2, g3, g4, g5, g6, g7⟩ := hg
    have ih := lp_bj hk hb ⟨g1, g2, g3, g4, g5, g6, g7⟩ U can kk r (j + 1)
    have hq : (pk k).getD j 0 < 40 := g6 _ (getD_mem (by omega))
    have et : (pk k).take (j + 1) = (pk k).take j ++ [(pk k).getD j 0] := by
      rw [List.take_succ_eq_append_getElem (by omega)]
      simp [List.getD_eq_getElem?_getD, show j < (pk k).length by omega]
    have hnt : (pk k).getD j 0 ∉ (pk k).take j := by
      intro h
      obtain ⟨i, i1, i2⟩ := List.getElem_of_mem h
      have h5 := List.pairwise_iff_getElem.mp g5
      simp only [List.length_take] at i1
      rw [List.getElem_take] at i2
      have e2 : (pk k).getD j 0 = (pk k)[j]'(by omega) := by simp [List.getD_eq_getElem?_getD, show j < (pk k).length by omega]
      exact h5 i j (by omega) (by omega) (by omega) (i2.trans e2)
    have hx : (12 : Int32) * nI g + nI j = nI (12 * g + j) := by rw [mul12 g g1]; exact nI_add _ _
    have hTq := hT ((pk k).getD j 0) (by omega)
    rw [decide_eq_false hnt, Bool.or_false] at hTq
    have eb : anB U (pk k) (j + 1) = (anB U (pk k) j || U ((pk k).getD j 0)) := rfl
    rw [eb] at ih
    have hT' : ∀ x, x < 64 → bl (T ||| ((1 : Int64) <<< ((nI ((pk k).getD j 0)).toInt64 &&& 63))) x = (U x || decide (x ∈ (pk k).take (j + 1))) := fun x hx => by
      rw [bl_or, hT x hx, bl_one (by omega), et, Bool.or_assoc]
      congr 1
      rw [Bool.eq_iff_iff]
      simp only [Bool.or_eq_true, decide_eq_true_eq, List.mem_append, List.mem_singleton]
    have rest : ∀ (x9 : Int32) c, c = (can && !(anB U (pk k) j || U ((pk k).getD j 0))) → E me_X8_bestGuesses d L 146 [some (.ref 82), some (.int a), some (.int (nI n)), some (.int bst), some (.int mst), some (.int (nI m)), some (.long T), none, some (.int sm), some (.int x9), some (.int (nI k)), some (.int (nI g)), some (.int (nI j)), some (.long ((1 : Int64) <<< ((nI ((pk k).getD j 0)).toInt64 &&& 63))), none] [.int (bI c)] I J p Q := by
      intro x9 c hc
      subst hc
      refine ev_istore (pc := 146) dX8_bestGuesses_146 rfl (ev_lload (pc := 148) dX8_bestGuesses_148 rfl (ev_lload (pc := 150) dX8_bestGuesses_150 rfl (ev_lor (pc := 152) dX8_bestGuesses_152 (ev_lstore (pc := 153) dX8_bestGuesses_153 rfl (ev_iinc (pc := 155) dX8_bestGuesses_155 rfl (iinc_1 _) rfl (ev_goto (pc := 158) 86 dX8_bestGuesses_158 (by decide) (?_)))))))
      exact ih _ _ _ (by omega) hT'
    refine ev_iload (pc := 86) dX8_bestGuesses_86 rfl (ev_aload_n (pc := 88) dX8_bestGuesses_88 rfl (ev_getr (pc := 89) kF_8_31 dX8_bestGuesses_89 rfl rfl rfl (ev_iload (pc := 92) dX8_bestGuesses_92 rfl (ev_iald (pc := 94) (i := g) dX8_bestGuesses_94 rfl (rfl) (by omega) rfl (ev_ncmp_ge (pc := 95) 161 (j) ((pk k).length) dX8_bestGuesses_95 (by decide) (rfl) (g3.1) (by omega) (by omega) (kt := fun c => absurd c (by omega)) (kf := fun c95 => ev_iload (pc := 98) dX8_bestGuesses_98 rfl (ev_iload (pc := 100) dX8_bestGuesses_100 rfl (ev_ishr (pc := 102) dX8_bestGuesses_102 (ev_iconst (pc := 103) (v := (1)) dX8_bestGuesses_103 iconst_c1 (ev_iand (pc := 104) dX8_bestGuesses_104 (ev_iconst (pc := 105) (v := (1)) dX8_bestGuesses_105 iconst_c1 (?_))))))))))))
    rw [b3_bit hk, hb, if_pos rfl]
    refine ev_icmp_ne (pc := 106) 161 dX8_bestGuesses_106 (by decide) (kt := fun c => absurd (rfl) c) (kf := fun c106 => ev_lconst (pc := 109) (v := 1) dX8_bestGuesses_109 rfl (ev_aload_n (pc := 110) dX8_bestGuesses_110 rfl (ev_getr (pc := 111) kF_8_43 dX8_bestGuesses_111 rfl rfl rfl (ev_bipush (pc := 114) (v := (12)) dX8_bestGuesses_114 bipush_c12 (ev_iload (pc := 116) dX8_bestGuesses_116 rfl (ev_imul (pc := 118) dX8_bestGuesses_118 (ev_iload (pc := 119) dX8_bestGuesses_119 rfl (ev_iadd (pc := 121) dX8_bestGuesses_121 (ev_iald (pc := 122) (i := 12 * g + j) dX8_bestGuesses_122 rfl (hx) (by omega) rfl (?_))))))))))
    rw [g3.2 j (by omega)]
    refine ev_lshl (pc := 123) dX8_bestGuesses_123 (ev_lstore (pc := 124) dX8_bestGuesses_124 rfl (ev_iload (pc := 126) dX8_bestGuesses_126 rfl (?_)))
    cases q : (can && !anB U (pk k) j)
    · refine ev_ifb_eq (pc := 128) 145 dX8_bestGuesses_128 (by decide) (kf := fun c => absurd c (by simp)) (kt := fun c128 => ev_iconst (pc := 145) (v := (0)) dX8_bestGuesses_145 iconst_c0 (?_))
      exact rest _ false (by rw [Bool.not_or, ← Bool.and_assoc, q, Bool.false_and])
    · refine ev_ifb_eq (pc := 128) 145 dX8_bestGuesses_128 (by decide) (kt := fun c => absurd c (by simp)) (kf := fun c128 => ev_lload (pc := 131) dX8_bestGuesses_131 rfl (ev_lload (pc := 133) dX8_bestGuesses_133 rfl (ev_land (pc := 135) dX8_bestGuesses_135 (ev_lconst (pc := 136) (v := 0) dX8_bestGuesses_136 rfl (ev_lcmp (pc := 137) dX8_bestGuesses_137 (?_))))))
      cases u : U ((pk k).getD j 0)
      · have hc := (lc_bit (T := T) (q := (pk k).getD j 0) (by omega)).mpr (by rw [hTq, u])
        refine ev_if_ne (pc := 138) 145 dX8_bestGuesses_138 (by decide) (kt := fun c => absurd (hc) c) (kf := fun c138 => ev_iconst (pc := 141) (v := (1)) dX8_bestGuesses_141 iconst_c1 (ev_goto (pc := 142) 146 dX8_bestGuesses_142 (by decide) (?_)))
        exact rest _ true (by rw [Bool.not_or, ← Bool.and_assoc, q, u]; rfl)
      · have hc : ¬ lg_cmp (T &&& ((1 : Int64) <<< ((nI ((pk k).getD j 0)).toInt64 &&& 63))) 0 = 0 := fun h => by
          have := (lc_bit (by omega)).mp h
          rw [hTq, u] at this
          cases this
        refine ev_if_ne (pc := 138) 145 dX8_bestGuesses_138 (by decide) (kf := fun c => absurd c (hc)) (kt := fun c138 => ev_iconst (pc := 145) (v := (0)) dX8_bestGuesses_145 iconst_c0 (?_))
        exact rest _ false (by rw [Bool.not_or, ← Bool.and_assoc, q, u]; rfl)
end T68
