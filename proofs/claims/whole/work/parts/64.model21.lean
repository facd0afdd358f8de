/-! ===== the reference: the text is read ===== -/
def nF (I I' : Nat → Nat → Int32) : Prop := (∀ c, c ≠ 82 → c ≠ 96 → I' c = I c) ∧ ∀ i, i ≠ 17 → I' 82 i = I 82 i
theorem nF_rf (I : Nat → Nat → Int32) : nF I I := ⟨fun _ _ _ => rfl, fun _ _ => rfl⟩
theorem nF_tr {I I1 I2 : Nat → Nat → Int32} (h : nF I I1) (h2 : nF I1 I2) : nF I I2 := ⟨fun c a b => (h2.1 c a b).trans (h.1 c a b), fun i a => (h2.2 i a).trans (h.2 i a)⟩
theorem nF_17 {I I1 : Nat → Nat → Int32} {v : Int32} (h : nF I I1) : nF I (ui I1 82 17 v) := ⟨fun c a b => by
    rw [← h.1 c a b]
    funext y
    simp only [ui]
    rw [if_neg (fun q => a q.1)], fun i a => by
    rw [← h.2 i a]
    simp only [ui]
    rw [if_neg (fun q => a q.2)]⟩
theorem nF_96 {I I1 : Nat → Nat → Int32} {k : Nat} {v : Int32} (h : nF I I1) : nF I (ui I1 96 k v) := ⟨fun c a b => by
    rw [← h.1 c a b]
    funext y
    simp only [ui]
    rw [if_neg (fun q => b q.1)], fun i a => by
    rw [← h.2 i a]
    simp only [ui]
    rw [if_neg (fun q => absurd q.1 (by decide))]⟩
theorem mul10 : ∀ n, n < 10 → (10 : Int32) * nI n = nI (10 * n) := by decide
theorem inR_m1 {a b : Nat} (ha : a < 2 ^ 31) : inR a b (-1) = false := by
  unfold inR
  rw [decide_eq_false (fun h => nI_pos ha (Int32.lt_of_le_of_lt h (by decide))), Bool.false_and]
theorem inR_dgt {x : Int32} : (inR 48 57 x = true ∧ ∃ v, v < 10 ∧ dgt x = some v ∧ x = nI (48 + v)) ∨ (inR 48 57 x = false ∧ dgt x = none) := by
  by_cases h : 48 ≤ x ∧ x ≤ 57
  · obtain ⟨v, v1, v2, v3, v4⟩ := dgt_some h.1 h.2
    refine Or.inl ⟨?_, v, v1, v2, v4⟩
    unfold inR
    rw [decide_eq_true (show nI 48 ≤ x from h.1), decide_eq_true (show x ≤ nI 57 from h.2)]
    rfl
  · refine Or.inr ⟨?_, dgt_none h⟩
    unfold inR
    rw [Bool.and_eq_false_iff]
    by_cases c : 48 ≤ x
    · exact Or.inr (decide_eq_false (fun q => h ⟨c, q⟩))
    · exact Or.inl (decide_eq_false c)
theorem inR_one {c : Nat} {x : Int32} : inR c c x = decide (x = nI c) := by
  unfold inR
  rw [Bool.eq_iff_iff]
  simp only [Bool.and_eq_true, decide_eq_true_eq]
  exact ⟨fun h => Int32.le_antisymm h.2 h.1, fun h => h ▸ ⟨Int32.le_refl _, Int32.le_refl _⟩⟩
section T64
variable {d L : Nat} {I : Nat → Nat → Int32} {J : Nat → Nat → Int64} {p : Nat → Nat} {Q : Option Value → am_M → Prop}
/-- the text stands -/
def txS (I : Nat → Nat → Int32) (tx : Nat → Int32) (n : Nat) : Prop := I 82 7 = nI n ∧ ∀ i, i < n → I 87 i = tx i
theorem txS_of {I I' : Nat → Nat → Int32} {tx : Nat → Int32} {n : Nat} (h : txS I tx n) (f : nF I I') : txS I' tx n := ⟨by rw [f.2 7 (by decide)]; exact h.1, fun i hi => by rw [f.1 87 (by decide) (by decide)]; exact h.2 i hi⟩
theorem m_isAt (hd : 1 ≤ d) {tx : Nat → Int32} {n a lo hi : Nat} (ht : txS I tx n) (hn : n ≤ 60) (ha : I 82 17 = nI a) (ha2 : a ≤ 300) (hlo : lo < 2 ^ 31) (h : Q (some (.int (bI (inR lo hi (sgT tx n a))))) (I, J, KR p)) : T d me_X8_isAt [.ref 82, .int (nI lo), .int (nI hi)] L I J p Q := by
  refine am_enter [some (.ref 82), some (.int (nI lo)), some (.int (nI hi))] rfl rfl rfl rfl ?_
  unfold sgT at h
  by_cases c : a < n
  · rw [if_pos c] at h
    refine ev_aload_n (pc := 0) dX8_isAt_0 rfl (ev_geti (pc := 1) kF_8_162 dX8_isAt_1 rfl rfl (ev_aload_n (pc := 4) dX8_isAt_4 rfl (ev_geti (pc := 5) kF_8_159 dX8_isAt_5 rfl rfl (ev_ncmp_ge (pc := 8) 32 (a) (n) dX8_isAt_8 (by decide) (ha) (ht.1) (by omega) (by omega) (kt := fun c => absurd c (by omega)) (kf := fun c8 => ?_)))))
    refine ev_aload_n (pc := 11) dX8_isAt_11 rfl (ev_getr (pc := 12) kF_8_22 dX8_isAt_12 rfl rfl rfl (ev_aload_n (pc := 15) dX8_isAt_15 rfl (ev_geti (pc := 16) kF_8_162 dX8_isAt_16 rfl rfl (ev_iald (pc := 19) (i := a) dX8_isAt_19 rfl (ha) (by omega) rfl (?_)))))
    rw [ht.2 a c]
    refine ev_iload_n (pc := 20) dX8_isAt_20 rfl (ev_iload_n (pc := 21) dX8_isAt_21 rfl (ev_invS (pc := 22) kS_8_52 dX8_isAt_22 rfl (by omega) rfl ?_))
    refine m_in lo hi _ ?_
    cases q : inR lo hi (tx a)
    · rw [q] at h
      refine ev_ifb_eq (pc := 25) 32 dX8_isAt_25 (by decide) (kf := fun c => absurd c (by simp)) (kt := fun c25 => ev_iconst (pc := 32) (v := (0)) dX8_isAt_32 iconst_c0 (ev_zret (pc := 33) dX8_isAt_33 rfl (bI_01 false) ?_))
      exact h
    · rw [q] at h
      refine ev_ifb_eq (pc := 25) 32 dX8_isAt_25 (by decide) (kt := fun c => absurd c (by simp)) (kf := fun c25 => ev_iconst (pc := 28) (v := (1)) dX8_isAt_28 iconst_c1 (ev_goto (pc := 29) 33 dX8_isAt_29 (by decide) (ev_zret (pc := 33) dX8_isAt_33 rfl (bI_01 true) ?_)))
      exact h
  · rw [if_neg c, inR_m1 hlo] at h
    refine ev_aload_n (pc := 0) dX8_isAt_0 rfl (ev_geti (pc := 1) kF_8_162 dX8_isAt_1 rfl rfl (ev_aload_n (pc := 4) dX8_isAt_4 rfl (ev_geti (pc := 5) kF_8_159 dX8_isAt_5 rfl rfl (ev_ncmp_ge (pc := 8) 32 (a) (n) dX8_isAt_8 (by decide) (ha) (ht.1) (by omega) (by omega) (kf := fun c => absurd c (by omega)) (kt := fun c8 => ev_iconst (pc := 32) (v := (0)) dX8_isAt_32 iconst_c0 (ev_zret (pc := 33) dX8_isAt_33 rfl (bI_01 false) ?_))))))
    exact h
theorem nm_stop (hd : 2 ≤ d) {tx : Nat → Int32} {n a b k c : Nat} {o : Option Value} (ht : txS I tx n) (hn : n ≤ 60) (hb : I 82 17 = nI b) (hb2 : b ≤ 300) (hab : a ≤ b) (hs : dgt (sgT tx n b) = none ∨ a + 2 ≤ b) (h : E me_X8_number d L 74 [some (.ref 82), some (.int (nI k)), some (.int (nI c)), some (.int (nI a)), o] [] I J p Q) : E me_X8_number d L 12 [some (.ref 82), some (.int (nI k)), some (.int (nI c)), some (.int (nI a)), o] [] I J p Q := by
  refine ev_aload_n (pc := 12) dX8_number_12 rfl (ev_bipush (pc := 13) (v := (48)) dX8_number_13 bipush_c48 (ev_bipush (pc := 15) (v := (57)) dX8_number_15 bipush_c57 (ev_invV (pc := 17) kV_8_165 dX8_number_17 rfl rfl rfl (by omega) rfl ?_)))
  refine m_isAt (by omega) (lo := 48) (hi := 57) ht hn hb hb2 (by decide) ?_
  rcases inR_dgt (x := sgT tx n b) with ⟨e, v, v1, v2, v3⟩ | ⟨e, v2⟩
  · have hs2 : a + 2 ≤ b := hs.resolve_left (by rw [v2]; simp)
    have hx : I 82 17 - nI a = nI (b - a) := by rw [hb]; exact nI_less hab
    rw [e]
    refine ev_ifb_eq (pc := 20) 74 dX8_number_20 (by decide) (kt := fun c => absurd c (by simp)) (kf := fun c20 => ev_aload_n (pc := 23) dX8_number_23 rfl (ev_geti (pc := 24) kF_8_162 dX8_number_24 rfl rfl (ev_iload_n (pc := 27) dX8_number_27 rfl (ev_isub (pc := 28) dX8_number_28 (ev_iconst (pc := 29) (v := (2)) dX8_number_29 iconst_c2 (ev_ncmp_ge (pc := 30) 74 (b - a) (2) dX8_number_30 (by decide) (hx) (rfl) (by omega) (by omega) (kf := fun c => absurd c (by omega)) (kt := fun c30 => ?_)))))))
    exact h
  · rw [e]
    refine ev_ifb_eq (pc := 20) 74 dX8_number_20 (by decide) (kf := fun c => absurd c (by simp)) (kt := fun c20 => ?_)
    exact h
theorem nm_go (hd : 2 ≤ d) {tx : Nat → Int32} {n a b k c v w : Nat} {o : Option Value} (hk : k < 3) (ht : txS I tx n) (hn : n ≤ 60) (hb : I 82 17 = nI b) (hb2 : b ≤ 300) (hab : a ≤ b) (hs : dgt (sgT tx n b) = some v) (hs2 : b < a + 2) (hw : w < 10) (h96 : I 96 k = nI w) (h : v < 10 → E me_X8_number d L 12 [some (.ref 82), some (.int (nI k)), some (.int (nI c)), some (.int (nI a)), o] [] (ui (ui I 96 k (nI (10 * w + v))) 82 17 (nI (b + 1))) J p Q) : E me_X8_number d L 12 [some (.ref 82), some (.int (nI k)), some (.int (nI c)), some (.int (nI a)), o] [] I J p Q := by
  rcases inR_dgt (x := sgT tx n b) with ⟨e, v', v1, v2, v3⟩ | ⟨e, v2⟩
  · rw [hs] at v2
    cases v2
    have hbn : b < n := by
      unfold sgT at v3
      by_cases c : b < n
      · exact c
      · rw [if_neg c] at v3
        exact absurd v3.symm (nI_ne_m1 (by omega))
    have hg : I 87 b = nI (48 + v) := by
      rw [ht.2 b hbn, ← v3]
      unfold sgT
      rw [if_pos hbn]
    have hx : I 82 17 - nI a = nI (b - a) := by rw [hb]; exact nI_less hab
    refine ev_aload_n (pc := 12) dX8_number_12 rfl (ev_bipush (pc := 13) (v := (48)) dX8_number_13 bipush_c48 (ev_bipush (pc := 15) (v := (57)) dX8_number_15 bipush_c57 (ev_invV (pc := 17) kV_8_165 dX8_number_17 rfl rfl rfl (by omega) rfl ?_)))
    refine m_isAt (by omega) (lo := 48) (hi := 57) ht hn hb hb2 (by decide) ?_
    rw [e]
    refine ev_ifb_eq (pc := 20) 74 dX8_number_20 (by decide) (kt := fun c => absurd c (by simp)) (kf := fun c20 => ev_aload_n (pc := 23) dX8_number_23 rfl (ev_geti (pc := 24) kF_8_162 dX8_number_24 rfl rfl (ev_iload_n (pc := 27) dX8_number_27 rfl (ev_isub (pc := 28) dX8_number_28 (ev_iconst (pc := 29) (v := (2)) dX8_number_29 iconst_c2 (ev_ncmp_ge (pc := 30) 74 (b - a) (2) dX8_number_30 (by decide) (hx) (rfl) (by omega) (by omega) (kt := fun c => absurd c (by omega)) (kf := fun c30 => ev_aload_n (pc := 33) dX8_number_33 rfl (ev_getr (pc := 34) kF_8_49 dX8_number_34 rfl rfl rfl (ev_iload_n (pc := 37) dX8_number_37 rfl (ev_bipush (pc := 38) (v := (10)) dX8_number_38 bipush_c10 (ev_aload_n (pc := 40) dX8_number_40 rfl (ev_getr (pc := 41) kF_8_49 dX8_number_41 rfl rfl rfl (ev_iload_n (pc := 44) dX8_number_44 rfl (ev_iald (pc := 45) (i := k) dX8_number_45 rfl (rfl) (by omega) rfl (?_)))))))))))))))
    rw [h96]
    refine ev_imul (pc := 46) dX8_number_46 (?_)
    rw [mul10 w hw]
    refine ev_aload_n (pc := 47) dX8_number_47 rfl (ev_getr (pc := 48) kF_8_22 dX8_number_48 rfl rfl rfl (ev_aload_n (pc := 51) dX8_number_51 rfl (ev_geti (pc := 52) kF_8_162 dX8_number_52 rfl rfl (ev_iald (pc := 55) (i := b) dX8_number_55 rfl (hb) (by omega) rfl (?_)))))
    rw [hg]
    refine ev_iadd (pc := 56) dX8_number_56 (?_)
    rw [show nI (10 * w) + nI (48 + v) = nI (10 * w + (48 + v)) from nI_add _ _]
    refine ev_bipush (pc := 57) (v := (48)) dX8_number_57 bipush_c48 (ev_isub (pc := 59) dX8_number_59 (?_))
    rw [show nI (10 * w + (48 + v)) - 48 = nI (10 * w + v) by rw [show 10 * w + v = 10 * w + (48 + v) - 48 by omega]; exact nI_less (a := 10 * w + (48 + v)) (b := 48) (by omega)]
    refine ev_iast (pc := 60) (i := k) dX8_number_60 rfl rfl (rfl) (by omega) rfl (ev_aload_n (pc := 61) dX8_number_61 rfl (ev_dup (pc := 62) dX8_number_62 rfl (ev_geti (pc := 63) kF_8_162 dX8_number_63 rfl rfl (?_))))
    rw [show ui I 96 k (nI (10 * w + v)) 82 17 = nI b by simp [ui, hb]]
    refine ev_iconst (pc := 66) (v := (1)) dX8_number_66 iconst_c1 (ev_iadd (pc := 67) dX8_number_67 (?_))
    rw [nI_1]
    refine ev_puti (pc := 68) kF_8_162 dX8_number_68 rfl rfl rfl rfl rfl (ev_goto (pc := 71) 12 dX8_number_71 (by decide) (?_))
    exact h v1
  · rw [hs] at v2
    cases v2
theorem nm_end (hd : 2 ≤ d) {tx : Nat → Int32} {n a b k c : Nat} {o : Option Value} (ht : txS I tx n) (hn : n ≤ 60) (hb : I 82 17 = nI b) (hb2 : b ≤ 300) (hc : c < 2 ^ 31) (h0 : b ≤ a → Q (some (.int (bI false))) (ui I 82 17 (nI (b + 1)), J, KR p)) (h1 : a < b → Q (some (.int (bI (decide (sgT tx n b = nI c))))) (ui I 82 17 (nI (b + 1)), J, KR p)) (ha2 : a ≤ 300) : E me_X8_number d L 74 [some (.ref 82), some (.int (nI k)), some (.int (nI c)), some (.int (nI a)), o] [] I J p Q := by
  have fin : ∀ (r : Bool), Q (some (.int (bI r))) (ui I 82 17 (nI (b + 1)), J, KR p) → E me_X8_number d L 96 [some (.ref 82), some (.int (nI k)), some (.int (nI c)), some (.int (nI a)), o] [.int (bI r)] I J p Q := by
    intro r hq
    refine ev_istore (pc := 96) dX8_number_96 rfl (ev_aload_n (pc := 98) dX8_number_98 rfl (ev_dup (pc := 99) dX8_number_99 rfl (ev_geti (pc := 100) kF_8_162 dX8_number_100 rfl rfl (?_))))
    rw [hb]
    refine ev_iconst (pc := 103) (v := (1)) dX8_number_103 iconst_c1 (ev_iadd (pc := 104) dX8_number_104 (?_))
    rw [nI_1]
    refine ev_puti (pc := 105) kF_8_162 dX8_number_105 rfl rfl rfl rfl rfl (ev_iload (pc := 108) dX8_number_108 rfl (ev_zret (pc := 110) dX8_number_110 rfl (bI_01 _) ?_))
    exact hq
  by_cases q : b ≤ a
  · refine ev_aload_n (pc := 74) dX8_number_74 rfl (ev_geti (pc := 75) kF_8_162 dX8_number_75 rfl rfl (ev_iload_n (pc := 78) dX8_number_78 rfl (ev_ncmp_le (pc := 79) 95 (b) (a) dX8_number_79 (by decide) (hb) (rfl) (by omega) (by omega) (kf := fun c => absurd c (by omega)) (kt := fun c79 => ev_iconst (pc := 95) (v := (0)) dX8_number_95 iconst_c0 (?_)))))
    exact fin false (h0 q)
  · refine ev_aload_n (pc := 74) dX8_number_74 rfl (ev_geti (pc := 75) kF_8_162 dX8_number_75 rfl rfl (ev_iload_n (pc := 78) dX8_number_78 rfl (ev_ncmp_le (pc := 79) 95 (b) (a) dX8_number_79 (by decide) (hb) (rfl) (by omega) (by omega) (kt := fun c => absurd c (by omega)) (kf := fun c79 => ev_aload_n (pc := 82) dX8_number_82 rfl (ev_iload_n (pc := 83) dX8_number_83 rfl (ev_iload_n (pc := 84) dX8_number_84 rfl (ev_invV (pc := 85) kV_8_165 dX8_number_85 rfl rfl rfl (by omega) rfl ?_)))))))
    refine m_isAt (by omega) (lo := c) (hi := c) ht hn hb hb2 hc ?_
    have h1 := h1 (by omega)
    rw [inR_one]
    cases e : decide (sgT tx n b = nI c)
    · rw [e] at h1
      refine ev_ifb_eq (pc := 88) 95 dX8_number_88 (by decide) (kf := fun c => absurd c (by simp)) (kt := fun c88 => ev_iconst (pc := 95) (v := (0)) dX8_number_95 iconst_c0 (?_))
      exact fin false h1
    · rw [e] at h1
      refine ev_ifb_eq (pc := 88) 95 dX8_number_88 (by decide) (kt := fun c => absurd c (by simp)) (kf := fun c88 => ev_iconst (pc := 91) (v := (1)) dX8_number_91 iconst_c1 (ev_goto (pc := 92) 96 dX8_number_92 (by decide) (?_)))
      exact fin true h1
theorem m_number (hd : 2 ≤ d) {tx : Nat → Int32} {n a k c : Nat} (hk : k < 3) (ht : txS I tx n) (hn : n ≤ 60) (ha : I 82 17 = nI a) (ha2 : a ≤ 200) (hc : c < 2 ^ 31) (kn : ∀ I', rdS (sgT tx n) (nI c) a = none → nF I I' → Q (some (.int (bI false))) (I', J, KR p)) (ks : ∀ I' v b, rdS (sgT tx n) (nI c) a = some (v, b) → b ≤ a + 3 → nF I I' → I' 82 17 = nI b → I' 96 k = nI v → (∀ j, j ≠ k → I' 96 j = I 96 j) → Q (some (.int (bI true))) (I', J, KR p)) : T d me_X8_number [.ref 82, .int (nI k), .int (nI c)] L I J p Q := by
  refine am_enter [some (.ref 82), some (.int (nI k)), some (.int (nI c)), none, none] rfl rfl rfl rfl ?_
  unfold rdS rdN at kn ks
  refine ev_aload_n (pc := 0) dX8_number_0 rfl (ev_geti (pc := 1) kF_8_162 dX8_number_1 rfl rfl (?_))
  rw [ha]
  refine ev_istore_n (pc := 4) dX8_number_4 rfl (ev_aload_n (pc := 5) dX8_number_5 rfl (ev_getr (pc := 6) kF_8_49 dX8_number_6 rfl rfl rfl (ev_iload_n (pc := 9) dX8_number_9 rfl (ev_iconst (pc := 10) (v := (0)) dX8_number_10 iconst_c0 (ev_iast (pc := 11) (i := k) dX8_number_11 rfl rfl (rfl) (by omega) rfl (?_))))))
  have t1 : txS (ui I 96 k 0) tx n := txS_of ht (nF_96 (nF_rf I))
  have b1 : ui I 96 k 0 82 17 = nI a := by simp [ui, ha]
  have f1 : nF I (ui I 96 k 0) := nF_96 (nF_rf I)
  cases e1 : dgt (sgT tx n a) with
  | none =>
    refine nm_stop hd t1 hn b1 (by omega) (Nat.le_refl _) (Or.inl e1) ?_
    refine nm_end hd t1 hn b1 (by omega) hc (fun _ => ?_) (fun h => absurd h (Nat.lt_irrefl _)) (by omega)
    rw [e1] at kn
    exact kn _ rfl (nF_17 f1)
  | some u =>
    rw [e1] at kn ks
    refine nm_go hd (w := 0) hk t1 hn b1 (by omega) (Nat.le_refl _) e1 (by omega) (by omega) (by simp [ui]; rfl) (fun hu => ?_)
    rw [show 10 * 0 + u = u by omega]
    have f2 : nF I (ui (ui (ui I 96 k 0) 96 k (nI u)) 82 17 (nI (a + 1))) := nF_17 (nF_96 f1)
    have t2 := txS_of ht f2
    have b2 : ui (ui (ui I 96 k 0) 96 k (nI u)) 82 17 (nI (a + 1)) 82 17 = nI (a + 1) := by simp [ui]
    have v2 : ui (ui (ui I 96 k 0) 96 k (nI u)) 82 17 (nI (a + 1)) 96 k = nI u := by simp [ui]
    have o2 : ∀ j, j ≠ k → ui (ui (ui I 96 k 0) 96 k (nI u)) 82 17 (nI (a + 1)) 96 j = I 96 j := fun j hj => by simp [ui, hj]
    generalize ui (ui (ui I 96 k 0) 96 k (nI u)) 82 17 (nI (a + 1)) = I2 at f2 t2 b2 v2 o2 ⊢
    have fin : ∀ (I3 : Nat → Nat → Int32) (v b : Nat), nF I I3 → txS I3 tx n → I3 82 17 = nI b → I3 96 k = nI v → (∀ j, j ≠ k → I3 96 j = I 96 j) → a < b → b ≤ a + 2 → (sgT tx n b ≠ nI c → ∀ I', nF I I' → Q (some (.int (bI false))) (I', J, KR p)) → (sgT tx n b = nI c → ∀ I', nF I I' → I' 82 17 = nI (b + 1) → I' 96 k = nI v → (∀ j, j ≠ k → I' 96 j = I 96 j) → Q (some (.int (bI true))) (I', J, KR p)) → ∀ o, E me_X8_number d L 74 [some (.ref 82), some (.int (nI k)), some (.int (nI c)), some (.int (nI a)), o] [] I3 J p Q := by
      intro I3 v b g1 g2 g3 g4 g5 g6 g7 g8 g9 o
      refine nm_end hd g2 hn g3 (by omega) hc (fun h => absurd h (by omega)) (fun _ => ?_) (by omega)
      by_cases e : sgT tx n b = nI c
      · rw [decide_eq_true e]
        exact g9 e _ (nF_17 g1) (by simp [ui]) (by simp [ui, g4]) (fun j hj => by simp [ui, g5 j hj])
      · rw [decide_eq_false e]
        exact g8 e _ (nF_17 g1)
    cases e2 : dgt (sgT tx n (a + 1)) with
    | none =>
      rw [e2] at kn ks
      dsimp only at kn ks
      refine nm_stop hd t2 hn b2 (by omega) (by omega) (Or.inl e2) ?_
      refine fin I2 u (a + 1) f2 t2 b2 v2 o2 (by omega) (by omega) (fun h I' g => kn I' (if_neg h) g) (fun h I' g1 g2 g3 g4 => ks I' u (a + 1 + 1) (if_pos h) (by omega) g1 g2 g3 g4) _
    | some v =>
      rw [e2] at kn ks
      dsimp only at kn ks
      refine nm_go hd (w := u) hk t2 hn b2 (by omega) (by omega) e2 (by omega) hu v2 (fun hv => ?_)
      have f3 : nF I (ui (ui I2 96 k (nI (10 * u + v))) 82 17 (nI (a + 1 + 1))) := nF_17 (nF_96 f2)
      have t3 := txS_of ht f3
      have b3 : ui (ui I2 96 k (nI (10 * u + v))) 82 17 (nI (a + 1 + 1)) 82 17 = nI (a + 2) := by simp [ui]
      refine nm_stop hd t3 hn b3 (by omega) (by omega) (Or.inr (by omega)) ?_
      refine fin _ (10 * u + v) (a + 2) f3 t3 b3 (by simp [ui]) (fun j hj => by simp [ui, hj, o2 j hj]) (by omega) (by omega) (fun h I' g => kn I' (if_neg h) g) (fun h I' g1 g2 g3 g4 => ks I' (10 * u + v) (a + 2 + 1) (if_pos h) (by omega) g1 g2 g3 g4) _
end T64
