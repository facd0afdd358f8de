/-! ===== the reference: bestGuesses ===== -/
/-- the best of the sets below k -/
def isB (z : Nat → Int) (C : Nat → Nat → Bool) (n k M : Nat) (Z : Int) : Prop := M < k ∧ vld C n M ∧ sgm z M n = Z ∧ 0 ≤ Z ∧ ∀ m, m < k → vld C n m → sgm z m n ≤ Z ∧ (sgm z m n = Z → M ≤ m)
theorem vld_0 {C : Nat → Nat → Bool} {n : Nat} : vld C n 0 := fun j k _ _ h => by rw [Nat.zero_testBit] at h; cases h
section T69
variable {d L : Nat} {I : Nat → Nat → Int32} {J : Nat → Nat → Int64} {p : Nat → Nat} {Q : Option Value → am_M → Prop} {a bst mst : Int32} {n m : Nat} {pk : Nat → List Nat} {sc : Nat → Int32} {z : Nat → Int} {C : Nat → Nat → Bool}
theorem lp_bk (hn : n ≤ 12) (hz : ∀ k, k < n → sc k = Int32.ofInt (z k)) (hg : ∀ k, k < n → ∃ g, bgK I pk sc k g) (hC : ∀ j k, C j k = (decide (k ≠ j) && mt (pk k) (pk j)))
    (kt : vld C n m → ∀ (T' : Int64) o10 o11 o12 o13 o14, E me_X8_bestGuesses d L 194 [some (.ref 82), some (.int a), some (.int (nI n)), some (.int bst), some (.int mst), some (.int (nI m)), some (.long T'), none, some (.int (Int32.ofInt (sgm z m n))), some (.int (bI true)), o10, o11, o12, o13, o14] [] I J p Q)
    (kf : ¬ vld C n m → ∀ (T' : Int64) (s : Int32) o10 o11 o12 o13 o14, E me_X8_bestGuesses d L 194 [some (.ref 82), some (.int a), some (.int (nI n)), some (.int bst), some (.int mst), some (.int (nI m)), some (.long T'), none, some (.int s), some (.int (bI false)), o10, o11, o12, o13, o14] [] I J p Q) : ∀ (r k : Nat) (T : Int64) (o11 o12 o13 o14 : Option Value), k + r = n → vld C k m → (∀ x, x < 64 → bl T x = uB pk m x k) → E me_X8_bestGuesses d L 63 [some (.ref 82), some (.int a), some (.int (nI n)), some (.int bst), some (.int mst), some (.int (nI m)), some (.long T), none, some (.int (Int32.ofInt (sgm z m k))), some (.int (bI true)), some (.int (nI k)), o11, o12, o13, o14] [] I J p Q
  | 0, k, T, o11, o12, o13, o14, hk, hv, hT => by
    have e : k = n := by omega
    subst e
    refine ev_iload (pc := 63) dX8_bestGuesses_63 rfl (ev_iload_n (pc := 65) dX8_bestGuesses_65 rfl (ev_ncmp_ge (pc := 66) 194 (k) (k) dX8_bestGuesses_66 (by decide) (rfl) (rfl) (by omega) (by omega) (kf := fun c => absurd c (by omega)) (kt := fun c66 => ?_)))
    exact kt hv _ _ _ _ _ _
  | r + 1, k, T, o11, o12, o13, o14, hk, hv, hT => by
    have ih := lp_bk hn hz hg hC kt kf r (k + 1)
    obtain ⟨g, hgk⟩ := hg k (by omega)
    obtain ⟨g1, g2, g3, g4, g5, g6, g7⟩ := id hgk
    have hCs : ∀ j k, C j k = C k j := fun j k => by
      rw [hC, hC, mt_comm, show decide (k ≠ j) = decide (j ≠ k) from decide_eq_decide.mpr ⟨fun h e => h e.symm, fun h e => h e.symm⟩]
    have es : sgm z m (k + 1) = sgm z m k + if m.testBit k then z k else 0 := rfl
    refine ev_iload (pc := 63) dX8_bestGuesses_63 rfl (ev_iload_n (pc := 65) dX8_bestGuesses_65 rfl (ev_ncmp_ge (pc := 66) 194 (k) (n) dX8_bestGuesses_66 (by decide) (rfl) (rfl) (by omega) (by omega) (kt := fun c => absurd c (by omega)) (kf := fun c66 => ev_iload (pc := 69) dX8_bestGuesses_69 rfl (ev_ifb_eq (pc := 71) 194 dX8_bestGuesses_71 (by decide) (kt := fun c => absurd c (by simp)) (kf := fun c71 => ev_aload_n (pc := 74) dX8_bestGuesses_74 rfl (ev_getr (pc := 75) kF_8_46 dX8_bestGuesses_75 rfl rfl rfl (ev_iload (pc := 78) dX8_bestGuesses_78 rfl (ev_iald (pc := 80) (i := k) dX8_bestGuesses_80 rfl (rfl) (by omega) rfl (?_)))))))))
    rw [g2]
    refine ev_istore (pc := 81) dX8_bestGuesses_81 rfl (ev_iconst (pc := 83) (v := (0)) dX8_bestGuesses_83 iconst_c0 (ev_istore (pc := 84) dX8_bestGuesses_84 rfl (?_)))
    cases hb : m.testBit k
    · rw [hb, if_neg (by decide), Int.add_zero] at es
      have fin : ∀ o12, E me_X8_bestGuesses d L 161 [some (.ref 82), some (.int a), some (.int (nI n)), some (.int bst), some (.int mst), some (.int (nI m)), some (.long T), none, some (.int (Int32.ofInt (sgm z m k))), some (.int (bI true)), some (.int (nI k)), some (.int (nI g)), o12, o13, o14] [] I J p Q := by
        intro o12
        refine ev_iload (pc := 161) dX8_bestGuesses_161 rfl (ev_iload (pc := 163) dX8_bestGuesses_163 rfl (ev_iload (pc := 165) dX8_bestGuesses_165 rfl (ev_ishr (pc := 167) dX8_bestGuesses_167 (ev_iconst (pc := 168) (v := (1)) dX8_bestGuesses_168 iconst_c1 (ev_iand (pc := 169) dX8_bestGuesses_169 (?_))))))
        rw [b3_bit (by omega), hb, if_neg (by decide)]
        refine ev_iconst (pc := 170) (v := (1)) dX8_bestGuesses_170 iconst_c1 (ev_icmp_ne (pc := 171) 184 dX8_bestGuesses_171 (by decide) (kf := fun c => absurd c (by decide)) (kt := fun c171 => ev_iconst (pc := 184) (v := (0)) dX8_bestGuesses_184 iconst_c0 (ev_iadd (pc := 185) dX8_bestGuesses_185 (?_))))
        rw [Int32.add_zero, ← es]
        refine ev_istore (pc := 186) dX8_bestGuesses_186 rfl (ev_iinc (pc := 188) dX8_bestGuesses_188 rfl (iinc_1 _) rfl (ev_goto (pc := 191) 63 dX8_bestGuesses_191 (by decide) (?_)))
        refine ih T _ _ _ _ (by omega) (fun i j hi hj bi bj => ?_) (fun x hx => by rw [hT x hx]; simp only [uB]; rw [hb, Bool.false_and, Bool.or_false])
        by_cases ei : i = k
        · rw [ei, hb] at bi; cases bi
        · by_cases ej : j = k
          · rw [ej, hb] at bj; cases bj
          · exact hv i j (by omega) (by omega) bi bj
      by_cases c : (pk k).length ≤ 0
      · refine ev_iload (pc := 86) dX8_bestGuesses_86 rfl (ev_aload_n (pc := 88) dX8_bestGuesses_88 rfl (ev_getr (pc := 89) kF_8_31 dX8_bestGuesses_89 rfl rfl rfl (ev_iload (pc := 92) dX8_bestGuesses_92 rfl (ev_iald (pc := 94) (i := g) dX8_bestGuesses_94 rfl (rfl) (by omega) rfl (ev_ncmp_ge (pc := 95) 161 (0) ((pk k).length) dX8_bestGuesses_95 (by decide) (rfl) (g3.1) (by omega) (by omega) (kf := fun c => absurd c (by omega)) (kt := fun c95 => ?_))))))
        exact fin _
      · refine ev_iload (pc := 86) dX8_bestGuesses_86 rfl (ev_aload_n (pc := 88) dX8_bestGuesses_88 rfl (ev_getr (pc := 89) kF_8_31 dX8_bestGuesses_89 rfl rfl rfl (ev_iload (pc := 92) dX8_bestGuesses_92 rfl (ev_iald (pc := 94) (i := g) dX8_bestGuesses_94 rfl (rfl) (by omega) rfl (ev_ncmp_ge (pc := 95) 161 (0) ((pk k).length) dX8_bestGuesses_95 (by decide) (rfl) (g3.1) (by omega) (by omega) (kt := fun c => absurd c (by omega)) (kf := fun c95 => ev_iload (pc := 98) dX8_bestGuesses_98 rfl (ev_iload (pc := 100) dX8_bestGuesses_100 rfl (ev_ishr (pc := 102) dX8_bestGuesses_102 (ev_iconst (pc := 103) (v := (1)) dX8_bestGuesses_103 iconst_c1 (ev_iand (pc := 104) dX8_bestGuesses_104 (ev_iconst (pc := 105) (v := (1)) dX8_bestGuesses_105 iconst_c1 (?_))))))))))))
        rw [b3_bit (by omega), hb, if_neg (by decide)]
        refine ev_icmp_ne (pc := 106) 161 dX8_bestGuesses_106 (by decide) (kf := fun c => absurd c (by decide)) (kt := fun c106 => ?_)
        exact fin _
    · rw [hb, if_pos rfl] at es
      refine lp_bj (by omega) hb hgk (fun x => uB pk m x k) true (fun T' o13 o14 hT' => ?_) (pk k).length 0 T o13 o14 (by omega) (fun x hx => by rw [hT x hx, List.take_zero]; simp)
      rw [anB_any, Bool.true_and]
      have hT2 : ∀ x, x < 64 → bl T' x = uB pk m x (k + 1) := fun x hx => by
        rw [hT' x hx]
        simp only [uB]
        rw [hb, Bool.true_and]
      refine ev_iload (pc := 161) dX8_bestGuesses_161 rfl (ev_iload (pc := 163) dX8_bestGuesses_163 rfl (ev_iload (pc := 165) dX8_bestGuesses_165 rfl (ev_ishr (pc := 167) dX8_bestGuesses_167 (ev_iconst (pc := 168) (v := (1)) dX8_bestGuesses_168 iconst_c1 (ev_iand (pc := 169) dX8_bestGuesses_169 (?_))))))
      rw [b3_bit (by omega), hb, if_pos rfl]
      refine ev_iconst (pc := 170) (v := (1)) dX8_bestGuesses_170 iconst_c1 (ev_icmp_ne (pc := 171) 184 dX8_bestGuesses_171 (by decide) (kt := fun c => absurd (rfl) c) (kf := fun c171 => ev_aload_n (pc := 174) dX8_bestGuesses_174 rfl (ev_getr (pc := 175) kF_8_40 dX8_bestGuesses_175 rfl rfl rfl (ev_iload (pc := 178) dX8_bestGuesses_178 rfl (ev_iald (pc := 180) (i := g) dX8_bestGuesses_180 rfl (rfl) (by omega) rfl (?_))))))
      rw [g4, hz k (by omega)]
      refine ev_goto (pc := 181) 185 dX8_bestGuesses_181 (by decide) (ev_iadd (pc := 185) dX8_bestGuesses_185 (?_))
      rw [← Int32.ofInt_add, ← es]
      refine ev_istore (pc := 186) dX8_bestGuesses_186 rfl (ev_iinc (pc := 188) dX8_bestGuesses_188 rfl (iinc_1 _) rfl (ev_goto (pc := 191) 63 dX8_bestGuesses_191 (by decide) (?_)))
      cases q : (pk k).any fun x => uB pk m x k
      · refine ih T' _ _ _ _ (by omega) (fun i j hi hj bi bj => ?_) hT2
        have nc : ∀ i, i < k → m.testBit i = true → C i k = false := fun i hi bi => by
          rw [hC]
          cases hm : mt (pk k) (pk i)
          · rw [Bool.and_false]
          · exfalso
            obtain ⟨x, x1, x2⟩ := mt_iff.mp hm
            have : ((pk k).any fun x => uB pk m x k) = true := List.any_eq_true.mpr ⟨x, x1, (uB_iff (pk := pk) (m := m) (x := x) k).mpr ⟨i, hi, bi, x2⟩⟩
            rw [q] at this
            cases this
        by_cases ei : i = k
        · by_cases ej : j = k
          · rw [ei, ej, hC, decide_eq_false (fun h => h rfl), Bool.false_and]
          · rw [ei, hCs]
            exact nc j (by omega) bj
        · by_cases ej : j = k
          · rw [ej]
            exact nc i (by omega) bi
          · exact hv i j (by omega) (by omega) bi bj
      · have bad : ¬ vld C n m := fun h => by
          obtain ⟨x, x1, x2⟩ := List.any_eq_true.mp q
          obtain ⟨i, i1, i2, i3⟩ := (uB_iff (pk := pk) (m := m) (x := x) k).mp x2
          have := h i k (by omega) (by omega) i2 hb
          rw [hC, decide_eq_true (show k ≠ i by omega), Bool.true_and] at this
          rw [mt_iff.mpr ⟨x, x1, i3⟩] at this
          cases this
        by_cases c : n ≤ k + 1
        · refine ev_iload (pc := 63) dX8_bestGuesses_63 rfl (ev_iload_n (pc := 65) dX8_bestGuesses_65 rfl (ev_ncmp_ge (pc := 66) 194 (k + 1) (n) dX8_bestGuesses_66 (by decide) (rfl) (rfl) (by omega) (by omega) (kf := fun c => absurd c (by omega)) (kt := fun c66 => ?_)))
          exact kf bad _ _ _ _ _ _ _
        · refine ev_iload (pc := 63) dX8_bestGuesses_63 rfl (ev_iload_n (pc := 65) dX8_bestGuesses_65 rfl (ev_ncmp_ge (pc := 66) 194 (k + 1) (n) dX8_bestGuesses_66 (by decide) (rfl) (rfl) (by omega) (by omega) (kt := fun c => absurd c (by omega)) (kf := fun c66 => ev_iload (pc := 69) dX8_bestGuesses_69 rfl (ev_ifb_eq (pc := 71) 194 dX8_bestGuesses_71 (by decide) (kf := fun c => absurd c (by simp)) (kt := fun c71 => ?_)))))
          exact kf bad _ _ _ _ _ _ _
theorem lp_bs {W : Nat} (hn : n ≤ 12) (hW : (1 : Int32) <<< (nI n &&& 31) = nI W) (hW2 : W ≤ 4096) (hz : ∀ k, k < n → sc k = Int32.ofInt (z k) ∧ -60 ≤ z k ∧ z k ≤ 180) (hg : ∀ k, k < n → ∃ g, bgK I pk sc k g) (hC : ∀ j k, C j k = (decide (k ≠ j) && mt (pk k) (pk j)))
    (kk : ∀ M Z o6 o7 o8 o9 o10 o11 o12 o13 o14, isB z C n W M Z → E me_X8_bestGuesses d L 245 [some (.ref 82), some (.int a), some (.int (nI n)), some (.int (nI M)), some (.int (Int32.ofInt Z)), some (.int (nI W)), o6, o7, o8, o9, o10, o11, o12, o13, o14] [] I J p Q) : ∀ (r m M : Nat) (Z : Int) (o6 o7 o8 o9 o10 o11 o12 o13 o14 : Option Value), m + r = W → isB z C n m M Z → E me_X8_bestGuesses d L 43 [some (.ref 82), some (.int a), some (.int (nI n)), some (.int (nI M)), some (.int (Int32.ofInt Z)), some (.int (nI m)), o6, o7, o8, o9, o10, o11, o12, o13, o14] [] I J p Q
  | 0, m, M, Z, o6, o7, o8, o9, o10, o11, o12, o13, o14, hm, hB => by
    have e : m = W := by omega
    subst e
    refine ev_iload (pc := 43) dX8_bestGuesses_43 rfl (ev_iconst (pc := 45) (v := (1)) dX8_bestGuesses_45 iconst_c1 (ev_iload_n (pc := 46) dX8_bestGuesses_46 rfl (ev_ishl (pc := 47) dX8_bestGuesses_47 (?_))))
    rw [hW]
    refine ev_ncmp_ge (pc := 48) 245 (m) (m) dX8_bestGuesses_48 (by decide) (rfl) (rfl) (by omega) (by omega) (kf := fun c => absurd c (by omega)) (kt := fun c48 => ?_)
    exact kk M Z _ _ _ _ _ _ _ _ _ hB
  | r + 1, m, M, Z, o6, o7, o8, o9, o10, o11, o12, o13, o14, hm, hB => by
    have ih := lp_bs hn hW hW2 hz hg hC kk r (m + 1)
    obtain ⟨b1, b2, b3, b4, b5⟩ := id hB
    have zb := sgm_bd (z := z) (m := M) n fun k hk => (hz k hk).2
    have mb := sgm_bd (z := z) (m := m) n fun k hk => (hz k hk).2
    have keep : (vld C n m → sgm z m n ≤ Z) → isB z C n (m + 1) M Z := fun h => ⟨by omega, b2, b3, b4, fun m' hm' hv => by
      by_cases e : m' = m
      · subst e
        exact ⟨h hv, fun _ => by omega⟩
      · exact b5 m' (by omega) hv⟩
    refine ev_iload (pc := 43) dX8_bestGuesses_43 rfl (ev_iconst (pc := 45) (v := (1)) dX8_bestGuesses_45 iconst_c1 (ev_iload_n (pc := 46) dX8_bestGuesses_46 rfl (ev_ishl (pc := 47) dX8_bestGuesses_47 (?_))))
    rw [hW]
    refine ev_ncmp_ge (pc := 48) 245 (m) (W) dX8_bestGuesses_48 (by decide) (rfl) (rfl) (by omega) (by omega) (kt := fun c => absurd c (by omega)) (kf := fun c48 => ev_lconst (pc := 51) (v := 0) dX8_bestGuesses_51 rfl (ev_lstore (pc := 52) dX8_bestGuesses_52 rfl (ev_iconst (pc := 54) (v := (0)) dX8_bestGuesses_54 iconst_c0 (ev_istore (pc := 55) dX8_bestGuesses_55 rfl (ev_iconst (pc := 57) (v := (1)) dX8_bestGuesses_57 iconst_c1 (ev_istore (pc := 58) dX8_bestGuesses_58 rfl (ev_iconst (pc := 60) (v := (0)) dX8_bestGuesses_60 iconst_c0 (ev_istore (pc := 61) dX8_bestGuesses_61 rfl (?_)))))))))
    refine lp_bk hn (fun k hk => (hz k hk).1) hg hC (fun hv T o10 o11 o12 o13 o14 => ?_) (fun hv T s o10 o11 o12 o13 o14 => ?_) n 0 0 _ _ _ _ (by omega) (fun i j hi => by omega) (fun x hx => bl_0 x)
    · by_cases c : Z < sgm z m n
      · have hlt := (oi_lt (a := Z) (b := sgm z m n) (by omega) (by omega)).mpr c
        refine ev_iload (pc := 194) dX8_bestGuesses_194 rfl (ev_ifb_eq (pc := 196) 210 dX8_bestGuesses_196 (by decide) (kt := fun c => absurd c (by simp)) (kf := fun c196 => ev_iload (pc := 199) dX8_bestGuesses_199 rfl (ev_iload (pc := 201) dX8_bestGuesses_201 rfl (ev_icmp_le (pc := 203) 210 dX8_bestGuesses_203 (by decide) (kt := fun c => absurd c (Int32.not_le.mpr hlt)) (kf := fun c203 => ev_iconst (pc := 206) (v := (1)) dX8_bestGuesses_206 iconst_c1 (ev_goto (pc := 207) 211 dX8_bestGuesses_207 (by decide) (ev_istore (pc := 211) dX8_bestGuesses_211 rfl (ev_iload (pc := 213) dX8_bestGuesses_213 rfl (ev_if_eq (pc := 215) 223 dX8_bestGuesses_215 (by decide) (kt := fun c => absurd c (by decide)) (kf := fun c215 => ev_iload (pc := 218) dX8_bestGuesses_218 rfl (ev_goto (pc := 220) 224 dX8_bestGuesses_220 (by decide) (ev_istore_n (pc := 224) dX8_bestGuesses_224 rfl (ev_iload (pc := 225) dX8_bestGuesses_225 rfl (ev_if_eq (pc := 227) 235 dX8_bestGuesses_227 (by decide) (kt := fun c => absurd c (by decide)) (kf := fun c227 => ev_iload (pc := 230) dX8_bestGuesses_230 rfl (ev_goto (pc := 232) 237 dX8_bestGuesses_232 (by decide) (ev_istore (pc := 237) dX8_bestGuesses_237 rfl (ev_iinc (pc := 239) dX8_bestGuesses_239 rfl (iinc_1 _) rfl (ev_goto (pc := 242) 43 dX8_bestGuesses_242 (by decide) (?_))))))))))))))))))))
        refine ih m (sgm z m n) _ _ _ _ _ _ _ _ _ (by omega) ⟨by omega, hv, rfl, by omega, fun m' hm' hv' => ?_⟩
        by_cases e : m' = m
        · subst e
          exact ⟨Int.le_refl _, fun _ => Nat.le_refl _⟩
        · have := (b5 m' (by omega) hv').1
          exact ⟨by omega, fun h => by omega⟩
      · have hle : Int32.ofInt (sgm z m n) ≤ Int32.ofInt Z := Int32.not_lt.mp fun h => c ((oi_lt (by omega) (by omega)).mp h)
        refine ev_iload (pc := 194) dX8_bestGuesses_194 rfl (ev_ifb_eq (pc := 196) 210 dX8_bestGuesses_196 (by decide) (kt := fun c => absurd c (by simp)) (kf := fun c196 => ev_iload (pc := 199) dX8_bestGuesses_199 rfl (ev_iload (pc := 201) dX8_bestGuesses_201 rfl (ev_icmp_le (pc := 203) 210 dX8_bestGuesses_203 (by decide) (kf := fun c => absurd (hle) c) (kt := fun c203 => ev_iconst (pc := 210) (v := (0)) dX8_bestGuesses_210 iconst_c0 (ev_istore (pc := 211) dX8_bestGuesses_211 rfl (ev_iload (pc := 213) dX8_bestGuesses_213 rfl (ev_if_eq (pc := 215) 223 dX8_bestGuesses_215 (by decide) (kf := fun c => absurd (rfl) c) (kt := fun c215 => ev_iload_n (pc := 223) dX8_bestGuesses_223 rfl (ev_istore_n (pc := 224) dX8_bestGuesses_224 rfl (ev_iload (pc := 225) dX8_bestGuesses_225 rfl (ev_if_eq (pc := 227) 235 dX8_bestGuesses_227 (by decide) (kf := fun c => absurd (rfl) c) (kt := fun c227 => ev_iload (pc := 235) dX8_bestGuesses_235 rfl (ev_istore (pc := 237) dX8_bestGuesses_237 rfl (ev_iinc (pc := 239) dX8_bestGuesses_239 rfl (iinc_1 _) rfl (ev_goto (pc := 242) 43 dX8_bestGuesses_242 (by decide) (?_)))))))))))))))))
        exact ih M Z _ _ _ _ _ _ _ _ _ (by omega) (keep fun _ => by omega)
    · refine ev_iload (pc := 194) dX8_bestGuesses_194 rfl (ev_ifb_eq (pc := 196) 210 dX8_bestGuesses_196 (by decide) (kf := fun c => absurd c (by simp)) (kt := fun c196 => ev_iconst (pc := 210) (v := (0)) dX8_bestGuesses_210 iconst_c0 (ev_istore (pc := 211) dX8_bestGuesses_211 rfl (ev_iload (pc := 213) dX8_bestGuesses_213 rfl (ev_if_eq (pc := 215) 223 dX8_bestGuesses_215 (by decide) (kf := fun c => absurd (rfl) c) (kt := fun c215 => ev_iload_n (pc := 223) dX8_bestGuesses_223 rfl (ev_istore_n (pc := 224) dX8_bestGuesses_224 rfl (ev_iload (pc := 225) dX8_bestGuesses_225 rfl (ev_if_eq (pc := 227) 235 dX8_bestGuesses_227 (by decide) (kf := fun c => absurd (rfl) c) (kt := fun c227 => ev_iload (pc := 235) dX8_bestGuesses_235 rfl (ev_istore (pc := 237) dX8_bestGuesses_237 rfl (ev_iinc (pc := 239) dX8_bestGuesses_239 rfl (iinc_1 _) rfl (ev_goto (pc := 242) 43 dX8_bestGuesses_242 (by decide) (?_))))))))))))))
      exact ih M Z _ _ _ _ _ _ _ _ _ (by omega) (keep fun h => absurd h hv)
end T69
section T69b
variable {d L : Nat} {I : Nat → Nat → Int32} {J : Nat → Nat → Int64} {p : Nat → Nat} {Q : Option Value → am_M → Prop} {s : Sta} {rn : Bool}
theorem best_eq {n : Nat} (hn : n ≤ 12) {sc : Nat → Int32} {z : Nat → Int} (hz : ∀ k, k < n → sc k = Int32.ofInt (z k) ∧ -60 ≤ z k ∧ z k ≤ 180) {C : Nat → Nat → Bool} (hs : ∀ j k, C j k = C k j) (h0 : ∀ k, C k k = false) {M : Nat} {Z : Int} (hB : isB z C n (2 ^ n) M Z) : dcS sc (fun k => mkC (C k) n) n 0 0 (0, 0) = (nI M, Int32.ofInt Z) := by
  obtain ⟨b1, b2, b3, b4, b5⟩ := hB
  obtain ⟨rm, rz, r1, r2, r3, r4, r5⟩ := dcS_ok hn hz hs h0 n 0 0 0 0 (Nat.le_refl _) (by rw [Nat.zero_mul]; exact p2p n) (fun j k a1 a2 => by omega) (fun m _ => by omega) (by omega) (by omega) (by omega) (by omega)
  rw [Nat.zero_mul] at r1
  have e : dcS sc (fun k => mkC (C k) n) n 0 0 (0, 0) = dcS sc (fun k => mkC (C k) n) n (nI 0) (Int32.ofInt 0) (nI 0, Int32.ofInt 0) := rfl
  rw [e, r1]
  have hM := r5 M (Nat.div_eq_of_lt b1) b2
  have : rm = M ∧ rz = Z := by
    rcases r4 with ⟨e1, e2⟩ | ⟨c1, c2, c3, c4⟩
    · have h := b5 0 (p2p n) (fun j k _ _ h => by rw [Nat.zero_testBit] at h; cases h)
      rw [sgm_0] at h
      have := h.2 (by omega)
      omega
    · have hr : rm < 2 ^ n := by
        have := (Nat.div_eq_zero_iff (a := rm) (b := 2 ^ n)).mp c2
        have := p2p n
        omega
      have h := b5 rm hr c3
      have h2 := hM.2 (by omega) c1
      have h3 := h.2 (by omega)
      omega
  rw [this.1, this.2]
theorem m_bestGuesses (hd : 7 ≤ d) (hm : Mod rn I s) (hw : wfD s.1) (a : Int32) (k : ∀ I', Mod rn I' s → mfr I I' → Q (some (.int (oBest s a))) (I', J, KR p)) : T d me_X8_bestGuesses [.ref 82, .int a] L I J p Q := by
  refine am_enter [some (.ref 82), some (.int a), none, none, none, none, none, none, none, none, none, none, none, none, none] rfl rfl rfl rfl ?_
  unfold oBest at k
  have hwG := wfG_of hw
  refine ev_iload_n (pc := 0) dX8_bestGuesses_0 rfl (ev_iconst (pc := 1) (v := (0)) dX8_bestGuesses_1 iconst_c0 (ev_iconst (pc := 2) (v := (1)) dX8_bestGuesses_2 iconst_c1 (ev_invS (pc := 3) kS_8_52 dX8_bestGuesses_3 rfl (by omega) rfl ?_)))
  refine m_in 0 1 a ?_
  cases q1 : inR 0 1 a
  · rw [q1, if_neg (by decide)] at k
    refine ev_ifb_ne (pc := 6) 12 dX8_bestGuesses_6 (by decide) (kt := fun c => absurd c (by simp)) (kf := fun c6 => ev_ldc (pc := 9) kC_8_79 dX8_bestGuesses_9 (ev_iret (pc := 11) dX8_bestGuesses_11 rfl ?_))
    exact k _ hm (fun _ _ => rfl)
  rw [q1, if_pos rfl] at k
  refine ev_ifb_ne (pc := 6) 12 dX8_bestGuesses_6 (by decide) (kf := fun c => absurd c (by simp)) (kt := fun c6 => ev_aload_n (pc := 12) dX8_bestGuesses_12 rfl (ev_invV (pc := 13) kV_8_126 dX8_bestGuesses_13 rfl rfl rfl (by omega) rfl ?_))
  refine m_guessAll (by omega) hm.1 hwG fun I1 hA hO hF => ?_
  have kk := k I1 (Mod_ga hm hF) (mfr_ga hF)
  clear k
  have hl : (flD s.1).length ≤ 40 := fl_len40 (Nat.le_refl _)
  have fgl := fg_len (D := s.1)
  obtain ⟨mn1, mn2⟩ := mn12_le (glD s.1 (fD s.1)).length
  have hmn : mn12 (glD s.1 (fD s.1)).length = if 12 < (glD s.1 (fD s.1)).length then 12 else (glD s.1 (fD s.1)).length := rfl
  unfold bestC at kk
  generalize hnn : mn12 (glD s.1 (fD s.1)).length = n at kk mn1 mn2 hmn
  have hz : ∀ k, k < n → (fun k => scD s.1 (fD s.1) ((glD s.1 (fD s.1)).getD k 0)) k = Int32.ofInt ((fun k => (scD s.1 (fD s.1) ((glD s.1 (fD s.1)).getD k 0)).toInt) k) ∧ -60 ≤ (fun k => (scD s.1 (fD s.1) ((glD s.1 (fD s.1)).getD k 0)).toInt) k ∧ (fun k => (scD s.1 (fD s.1) ((glD s.1 (fD s.1)).getD k 0)).toInt) k ≤ 180 := fun k hk => by
    obtain ⟨m1, m2, m3⟩ := gl_mem (getD_mem (show k < (glD s.1 (fD s.1)).length by omega))
    exact ⟨(Int32.ofInt_toInt _).symm, sc_bd hwG m1 m3 m2⟩
  have hg : ∀ k, k < n → ∃ g, bgK I1 (fun k => pgD s.1 (fD s.1) ((glD s.1 (fD s.1)).getD k 0)) (fun k => scD s.1 (fD s.1) ((glD s.1 (fD s.1)).getD k 0)) k g := fun k hk => by
    obtain ⟨g, o1, o2, o3⟩ := hO k (by omega)
    obtain ⟨a1, a2, a3, a4, a5, a6, a7, a8⟩ := ga_at hwG hA o1
    rw [o3] at a2 a4 a6 a7
    exact ⟨g, a1, o2, a2.2.1, a2.2.2.2.2, a4.1, a7, a6⟩
  have hC : ∀ j k, clP (pgD s.1 (fD s.1)) (glD s.1 (fD s.1)) j k = (decide (k ≠ j) && mt ((fun k => pgD s.1 (fD s.1) ((glD s.1 (fD s.1)).getD k 0)) k) ((fun k => pgD s.1 (fD s.1) ((glD s.1 (fD s.1)).getD k 0)) j)) := fun j k => rfl
  have hs : ∀ j k, clP (pgD s.1 (fD s.1)) (glD s.1 (fD s.1)) j k = clP (pgD s.1 (fD s.1)) (glD s.1 (fD s.1)) k j := fun j k => by
    rw [hC, hC, mt_comm, show decide (k ≠ j) = decide (j ≠ k) from decide_eq_decide.mpr ⟨fun h e => h e.symm, fun h e => h e.symm⟩]
  have h0 : ∀ k, clP (pgD s.1 (fD s.1)) (glD s.1 (fD s.1)) k k = false := fun k => by
    rw [hC, decide_eq_false (fun h => h rfl), Bool.false_and]
  have W4 : 2 ^ n ≤ 2 ^ 12 := Nat.pow_le_pow_right (by decide : 2 > 0) mn2
  have start : ∀ o, E me_X8_bestGuesses d L 35 [some (.ref 82), some (.int a), some (.int (nI n)), none, o, none, none, none, none, none, none, none, none, none, none] [] I1 J p Q := by
    intro o
    refine ev_iconst (pc := 35) (v := (0)) dX8_bestGuesses_35 iconst_c0 (ev_istore_n (pc := 36) dX8_bestGuesses_36 rfl (ev_iconst (pc := 37) (v := (0)) dX8_bestGuesses_37 iconst_c0 (ev_istore (pc := 38) dX8_bestGuesses_38 rfl (ev_iconst (pc := 40) (v := (1)) dX8_bestGuesses_40 iconst_c1 (ev_istore (pc := 41) dX8_bestGuesses_41 rfl (?_))))))
    refine lp_bs (W := 2 ^ n) mn2 (b3_pw n (by omega)) W4 hz hg hC (fun M Z o6 o7 o8 o9 o10 o11 o12 o13 o14 hB => ?_) (2 ^ n - 1) 1 0 0 _ _ _ _ _ _ _ _ _ (by have := p2p n; omega) ⟨by omega, vld_0, sgm_0 n, by omega, fun m hm hv => ?_⟩
    · have e := best_eq mn2 hz hs h0 hB
      rw [e] at kk
      by_cases qa : a = 0
      · rw [if_pos qa] at kk
        refine ev_iload_n (pc := 245) dX8_bestGuesses_245 rfl (ev_if_ne (pc := 246) 253 dX8_bestGuesses_246 (by decide) (kt := fun c => absurd (qa) c) (kf := fun c246 => ev_iload_n (pc := 249) dX8_bestGuesses_249 rfl (ev_goto (pc := 250) 255 dX8_bestGuesses_250 (by decide) (ev_iret (pc := 255) dX8_bestGuesses_255 rfl ?_))))
        exact kk
      · rw [if_neg qa] at kk
        refine ev_iload_n (pc := 245) dX8_bestGuesses_245 rfl (ev_if_ne (pc := 246) 253 dX8_bestGuesses_246 (by decide) (kf := fun c => absurd c (qa)) (kt := fun c246 => ev_iload (pc := 253) dX8_bestGuesses_253 rfl (ev_iret (pc := 255) dX8_bestGuesses_255 rfl ?_)))
        exact kk
    · rw [show m = 0 by omega, sgm_0]
      exact ⟨by omega, fun _ => by omega⟩
  have h9 : I1 82 9 = nI (glD s.1 (fD s.1)).length := by rw [← fgl]; exact hA.1
  by_cases q : (glD s.1 (fD s.1)).length < 12
  · rw [if_neg (by omega)] at hmn
    refine ev_aload_n (pc := 16) dX8_bestGuesses_16 rfl (ev_geti (pc := 17) kF_8_110 dX8_bestGuesses_17 rfl rfl (ev_bipush (pc := 20) (v := (12)) dX8_bestGuesses_20 bipush_c12 (ev_ncmp_ge (pc := 22) 32 ((glD s.1 (fD s.1)).length) (12) dX8_bestGuesses_22 (by decide) (h9) (rfl) (by omega) (by omega) (kt := fun c => absurd c (by omega)) (kf := fun c22 => ev_aload_n (pc := 25) dX8_bestGuesses_25 rfl (ev_geti (pc := 26) kF_8_110 dX8_bestGuesses_26 rfl rfl (ev_goto (pc := 29) 34 dX8_bestGuesses_29 (by decide) (?_)))))))
    rw [h9, ← hmn]
    refine ev_istore_n (pc := 34) dX8_bestGuesses_34 rfl (?_)
    exact start _
  · have hmn2 : n = 12 := by
      rw [hmn]
      split <;> omega
    refine ev_aload_n (pc := 16) dX8_bestGuesses_16 rfl (ev_geti (pc := 17) kF_8_110 dX8_bestGuesses_17 rfl rfl (ev_bipush (pc := 20) (v := (12)) dX8_bestGuesses_20 bipush_c12 (ev_ncmp_ge (pc := 22) 32 ((glD s.1 (fD s.1)).length) (12) dX8_bestGuesses_22 (by decide) (h9) (rfl) (by omega) (by omega) (kf := fun c => absurd c (by omega)) (kt := fun c22 => ev_bipush (pc := 32) (v := (12)) dX8_bestGuesses_32 bipush_c12 (?_)))))
    rw [show (12 : Int32) = nI n by rw [hmn2]; rfl]
    refine ev_istore_n (pc := 34) dX8_bestGuesses_34 rfl (?_)
    exact start _
end T69b
