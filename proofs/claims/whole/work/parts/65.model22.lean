/-! ===== the reference: an order ===== -/
def asR (v : Int32) : Nat := if v < 0 then if v = -1000001 then 2 else 3 else 0
def doR (s : Sta) (c : Int32) (u v w : Nat) : Int32 × Sta := if fitO c u v w then setM true s (doD s.1 c u v w) else (-1000001, s)
def pF (I I' : Nat → Nat → Int32) : Prop := (∀ a, a < 82 ∨ a = 85 ∨ a = 87 ∨ 96 < a → I' a = I a) ∧ ∀ i, i ≠ 4 → i ≠ 9 → i ≠ 17 → I' 82 i = I 82 i
theorem pF_n {I I' : Nat → Nat → Int32} (h : nF I I') : pF I I' := ⟨fun a ha => h.1 a (by omega) (by omega), fun i _ _ h3 => h.2 i h3⟩
theorem pF_w {I I1 I2 : Nat → Nat → Int32} (h : nF I I1) (h2 : wfr I1 I2) : pF I I2 := ⟨fun a ha => by rw [h2.1 a (by omega), h.1 a (by omega) (by omega)], fun i a b c => by rw [h2.2 i a b, h.2 i c]⟩
theorem fi_w {u v w : Nat} : fitO 119 u v w = (decide (u < 30) && decide (v < 10) && decide (1 ≤ w) && decide (w ≤ 12)) := if_pos rfl
theorem fi_d {u v w : Nat} : fitO 100 u v w = decide (u < 30) := by unfold fitO; rw [if_neg (by decide), if_pos rfl]
theorem fi_z {u v w : Nat} : fitO 122 u v w = decide (u < 40) := by unfold fitO; rw [if_neg (by decide), if_neg (by decide), if_pos rfl]
theorem fi_c {u v w : Nat} : fitO 99 u v w = true := by unfold fitO; rw [if_neg (by decide), if_neg (by decide), if_neg (by decide)]
theorem dd_w {D : Nat → Int32} {u v w : Nat} : doD D 119 u v w = wrS D u (nI v) w 0 := if_pos rfl
theorem dd_d {D : Nat → Int32} {u v w : Nat} : doD D 100 u v w = dlS D u := by unfold doD; rw [if_neg (by decide), if_pos rfl]
theorem dd_c {D : Nat → Int32} {u v w : Nat} : doD D 99 u v w = clS D u (-1) := by unfold doD; rw [if_neg (by decide), if_neg (by decide), if_pos rfl]
theorem dd_z {D : Nat → Int32} {u v w : Nat} : doD D 122 u v w = wpS D u := by unfold doD; rw [if_neg (by decide), if_neg (by decide), if_neg (by decide)]
theorem do_w {s : Sta} {u v w : Nat} (hu : u < 100) (hv : v < 100) (hw : w < 100) : oWriteM true s (nI u) (nI v) (nI w) 0 = doR s 119 u v w := by
  unfold oWriteM doR
  have e : (inR 0 29 (nI u) && (inR 0 9 (nI v) && (inR 1 12 (nI w) && inR 0 2 0))) = fitO 119 u v w := by
    rw [fi_w, inR_nI (by omega) (by omega) (by omega), inR_nI (by omega) (by omega) (by omega), inR_nI (by omega) (by omega) (by omega), show inR 0 2 0 = true by decide, Bool.eq_iff_iff]
    simp only [Bool.and_true, Bool.and_eq_true, decide_eq_true_eq]
    omega
  rw [e, dd_w, nI_clamp (by omega), nI_clamp (by omega), show (0 : Int32).toNatClampNeg = 0 by decide]
theorem do_d {s : Sta} {u : Nat} (hu : u < 100) : oDeleteM true s (nI u) = doR s 100 u 0 0 := by
  unfold oDeleteM doR
  have e : inR 0 29 (nI u) = fitO 100 u 0 0 := by
    rw [fi_d, inR_nI (by omega) (by omega) (by omega), Bool.eq_iff_iff]
    simp only [Bool.and_eq_true, decide_eq_true_eq]
    omega
  rw [e, dd_d, nI_clamp (by omega)]
theorem do_z {s : Sta} {u : Nat} (hu : u < 100) : oWipeM true s (nI u) = doR s 122 u 0 0 := by
  unfold oWipeM doR
  have e : inR 0 39 (nI u) = fitO 122 u 0 0 := by
    rw [fi_z, inR_nI (by omega) (by omega) (by omega), Bool.eq_iff_iff]
    simp only [Bool.and_eq_true, decide_eq_true_eq]
    omega
  rw [e, dd_z, nI_clamp (by omega)]
theorem do_c {s : Sta} {u : Nat} (hu : u < 100) : oClaimM true s (nI u) (-1) = doR s 99 u 0 0 := by
  unfold oClaimM doR
  rw [fi_c, dd_c, nI_clamp (by omega), decide_eq_false (nI_pos (by omega))]
  rfl
section T65
variable {d L : Nat} {I : Nat → Nat → Int32} {J : Nat → Nat → Int64} {p : Nat → Nat} {Q : Option Value → am_M → Prop} {s : Sta}
theorem Mod_n {rn : Bool} {I' : Nat → Nat → Int32} (hm : Mod rn I s) (h : nF I I') : Mod rn I' s := Mod_row hm (rowM_of hm.1 (h.1 83 (by decide) (by decide))) (h.1 84 (by decide) (by decide)) (h.1 87 (by decide) (by decide)) (fun i hi => h.2 i (by omega))
theorem m_asReason (v : Int32) (h : Q (some (.int (nI (asR v)))) (I, J, KR p)) : T d me_X8_asReason [.ref 82, .int v] L I J p Q := by
  refine am_enter [some (.ref 82), some (.int v)] rfl rfl rfl rfl ?_
  unfold asR at h
  by_cases hv : v < 0
  · rw [if_pos hv] at h
    by_cases e : v = -1000001
    · rw [if_pos e] at h
      refine ev_iload_n (pc := 0) dX8_asReason_0 rfl (ev_if_lt (pc := 1) 8 dX8_asReason_1 (by decide) (kf := fun c => absurd (hv) c) (kt := fun c1 => ev_iload_n (pc := 8) dX8_asReason_8 rfl (ev_ldc (pc := 9) kC_8_79 dX8_asReason_9 (ev_icmp_ne (pc := 11) 18 dX8_asReason_11 (by decide) (kt := fun c => absurd (e) c) (kf := fun c11 => ev_iconst (pc := 14) (v := (2)) dX8_asReason_14 iconst_c2 (ev_goto (pc := 15) 19 dX8_asReason_15 (by decide) (ev_iret (pc := 19) dX8_asReason_19 rfl ?_)))))))
      exact h
    · rw [if_neg e] at h
      refine ev_iload_n (pc := 0) dX8_asReason_0 rfl (ev_if_lt (pc := 1) 8 dX8_asReason_1 (by decide) (kf := fun c => absurd (hv) c) (kt := fun c1 => ev_iload_n (pc := 8) dX8_asReason_8 rfl (ev_ldc (pc := 9) kC_8_79 dX8_asReason_9 (ev_icmp_ne (pc := 11) 18 dX8_asReason_11 (by decide) (kf := fun c => absurd c (e)) (kt := fun c11 => ev_iconst (pc := 18) (v := (3)) dX8_asReason_18 iconst_c3 (ev_iret (pc := 19) dX8_asReason_19 rfl ?_))))))
      exact h
  · rw [if_neg hv] at h
    refine ev_iload_n (pc := 0) dX8_asReason_0 rfl (ev_if_lt (pc := 1) 8 dX8_asReason_1 (by decide) (kt := fun c => absurd c (hv)) (kf := fun c1 => ev_iconst (pc := 4) (v := (0)) dX8_asReason_4 iconst_c0 (ev_goto (pc := 5) 19 dX8_asReason_5 (by decide) (ev_iret (pc := 19) dX8_asReason_19 rfl ?_))))
    exact h
theorem dz_num (hd : 3 ≤ d) {tx : Nat → Int32} {n a k m c : Nat} {x : Int32} (hk : k < m) (hm : m ≤ 3) (hcc : c = if k + 1 = m then 59 else 44) (ht : txS I tx n) (hn : n ≤ 60) (ha : I 82 17 = nI a) (ha2 : a ≤ 200) (kn : ∀ I', rdS (sgT tx n) (nI c) a = none → nF I I' → E me_X8_does d L 67 [some (.ref 82), some (.int x), some (.int (nI m)), some (.int (bI false)), some (.int (nI (k + 1)))] [] I' J p Q) (ks : ∀ I' v b, rdS (sgT tx n) (nI c) a = some (v, b) → b ≤ a + 3 → nF I I' → I' 82 17 = nI b → I' 96 k = nI v → (∀ j, j ≠ k → I' 96 j = I 96 j) → E me_X8_does d L 67 [some (.ref 82), some (.int x), some (.int (nI m)), some (.int (bI true)), some (.int (nI (k + 1)))] [] I' J p Q) : E me_X8_does d L 67 [some (.ref 82), some (.int x), some (.int (nI m)), some (.int (bI true)), some (.int (nI k))] [] I J p Q := by
  have hy : nI m - 1 = nI (m - 1) := nI_less (a := m) (b := 1) (by omega)
  have go : c < 2 ^ 31 → E me_X8_does d L 95 [some (.ref 82), some (.int x), some (.int (nI m)), some (.int (bI true)), some (.int (nI k))] [.int (nI c), .int (nI k), .ref 82] I J p Q := by
    intro hc
    refine ev_invV (pc := 95) kV_8_168 dX8_does_95 rfl rfl rfl (by omega) rfl ?_
    refine m_number (by omega) (by omega) ht hn ha ha2 hc (fun I' h1 h2 => ?_) (fun I' v b h1 h2 h3 h4 h5 h6 => ?_)
    · refine ev_istore_n (pc := 98) dX8_does_98 rfl (ev_iinc (pc := 99) dX8_does_99 rfl (iinc_1 _) rfl (ev_goto (pc := 102) 67 dX8_does_102 (by decide) (?_)))
      exact kn I' h1 h2
    · refine ev_istore_n (pc := 98) dX8_does_98 rfl (ev_iinc (pc := 99) dX8_does_99 rfl (iinc_1 _) rfl (ev_goto (pc := 102) 67 dX8_does_102 (by decide) (?_)))
      exact ks I' v b h1 h2 h3 h4 h5 h6
  by_cases e : k + 1 = m
  · rw [if_pos e] at hcc
    subst hcc
    refine ev_iload (pc := 67) dX8_does_67 rfl (ev_iload_n (pc := 69) dX8_does_69 rfl (ev_ncmp_ge (pc := 70) 105 (k) (m) dX8_does_70 (by decide) (rfl) (rfl) (by omega) (by omega) (kt := fun c => absurd c (by omega)) (kf := fun c70 => ev_iload_n (pc := 73) dX8_does_73 rfl (ev_ifb_eq (pc := 74) 105 dX8_does_74 (by decide) (kt := fun c => absurd c (by simp)) (kf := fun c74 => ev_aload_n (pc := 77) dX8_does_77 rfl (ev_iload (pc := 78) dX8_does_78 rfl (ev_iload (pc := 80) dX8_does_80 rfl (ev_iload_n (pc := 82) dX8_does_82 rfl (ev_iconst (pc := 83) (v := (1)) dX8_does_83 iconst_c1 (ev_isub (pc := 84) dX8_does_84 (ev_ncmp_ne (pc := 85) 93 (k) (m - 1) dX8_does_85 (by decide) (rfl) (hy) (by omega) (by omega) (kt := fun c => absurd c (by omega)) (kf := fun c85 => ev_bipush (pc := 88) (v := (59)) dX8_does_88 bipush_c59 (ev_goto (pc := 90) 95 dX8_does_90 (by decide) (?_))))))))))))))
    exact go (by omega)
  · rw [if_neg e] at hcc
    subst hcc
    refine ev_iload (pc := 67) dX8_does_67 rfl (ev_iload_n (pc := 69) dX8_does_69 rfl (ev_ncmp_ge (pc := 70) 105 (k) (m) dX8_does_70 (by decide) (rfl) (rfl) (by omega) (by omega) (kt := fun c => absurd c (by omega)) (kf := fun c70 => ev_iload_n (pc := 73) dX8_does_73 rfl (ev_ifb_eq (pc := 74) 105 dX8_does_74 (by decide) (kt := fun c => absurd c (by simp)) (kf := fun c74 => ev_aload_n (pc := 77) dX8_does_77 rfl (ev_iload (pc := 78) dX8_does_78 rfl (ev_iload (pc := 80) dX8_does_80 rfl (ev_iload_n (pc := 82) dX8_does_82 rfl (ev_iconst (pc := 83) (v := (1)) dX8_does_83 iconst_c1 (ev_isub (pc := 84) dX8_does_84 (ev_ncmp_ne (pc := 85) 93 (k) (m - 1) dX8_does_85 (by decide) (rfl) (hy) (by omega) (by omega) (kf := fun c => absurd c (by omega)) (kt := fun c85 => ev_bipush (pc := 93) (v := (44)) dX8_does_93 bipush_c44 (?_)))))))))))))
    exact go (by omega)
theorem dz_fail {x : Int32} {m k : Nat} (hk : k ≤ 3) (hm : m ≤ 3) (h : Q (some (.int (nI 1))) (I, J, KR p)) : E me_X8_does d L 67 [some (.ref 82), some (.int x), some (.int (nI m)), some (.int (bI false)), some (.int (nI k))] [] I J p Q := by
  by_cases c : m ≤ k
  · refine ev_iload (pc := 67) dX8_does_67 rfl (ev_iload_n (pc := 69) dX8_does_69 rfl (ev_ncmp_ge (pc := 70) 105 (k) (m) dX8_does_70 (by decide) (rfl) (rfl) (by omega) (by omega) (kf := fun c => absurd c (by omega)) (kt := fun c70 => ev_iload_n (pc := 105) dX8_does_105 rfl (ev_ifb_ne (pc := 106) 111 dX8_does_106 (by decide) (kt := fun c => absurd c (by simp)) (kf := fun c106 => ev_iconst (pc := 109) (v := (1)) dX8_does_109 iconst_c1 (ev_iret (pc := 110) dX8_does_110 rfl ?_))))))
    exact h
  · refine ev_iload (pc := 67) dX8_does_67 rfl (ev_iload_n (pc := 69) dX8_does_69 rfl (ev_ncmp_ge (pc := 70) 105 (k) (m) dX8_does_70 (by decide) (rfl) (rfl) (by omega) (by omega) (kt := fun c => absurd c (by omega)) (kf := fun c70 => ev_iload_n (pc := 73) dX8_does_73 rfl (ev_ifb_eq (pc := 74) 105 dX8_does_74 (by decide) (kf := fun c => absurd c (by simp)) (kt := fun c74 => ev_iload_n (pc := 105) dX8_does_105 rfl (ev_ifb_ne (pc := 106) 111 dX8_does_106 (by decide) (kt := fun c => absurd c (by simp)) (kf := fun c106 => ev_iconst (pc := 109) (v := (1)) dX8_does_109 iconst_c1 (ev_iret (pc := 110) dX8_does_110 rfl ?_))))))))
    exact h
theorem m_does (hd : 9 ≤ d) {a : Nat} (hm : Mod true I s) (hw : Wst s) (han : a < s.2.2.2.1) (ha : I 82 17 = nI a)
    (kn : ∀ I', rdO (sgT s.2.2.2.2 s.2.2.2.1) a = none → pF I I' → Mod true I' s → Q (some (.int (nI 1))) (I', J, KR p))
    (ks : ∀ I' c u v w e, rdO (sgT s.2.2.2.2 s.2.2.2.1) a = some (c, u, v, w, e) → pF I I' → Mod true I' (doR s c u v w).2 → I' 82 17 = nI e → Q (some (.int (nI (asR (doR s c u v w).1)))) (I', J, KR p)) : T d me_X8_does [.ref 82] L I J p Q := by
  refine am_enter [some (.ref 82), none, none, none, none] rfl rfl rfl rfl ?_
  have hn60 := hw.2.2.2.1
  have hn4 := hw.2.1
  have ht : txS I s.2.2.2.2 s.2.2.2.1 := ⟨hm.2.2.2.2.1, hm.2.2.2.2.2⟩
  have hg : sgT s.2.2.2.2 s.2.2.2.1 a = s.2.2.2.2 a := if_pos han
  refine ev_aload_n (pc := 0) dX8_does_0 rfl (ev_getr (pc := 1) kF_8_22 dX8_does_1 rfl rfl rfl (ev_aload_n (pc := 4) dX8_does_4 rfl (ev_geti (pc := 5) kF_8_162 dX8_does_5 rfl rfl (ev_iald (pc := 8) (i := a) dX8_does_8 rfl (ha) (by omega) rfl (?_)))))
  rw [ht.2 a han]
  unfold rdO at kn ks
  rw [hg] at kn ks
  generalize s.2.2.2.2 a = x at kn ks ⊢
  refine ev_istore_n (pc := 9) dX8_does_9 rfl (ev_aload_n (pc := 10) dX8_does_10 rfl (ev_dup (pc := 11) dX8_does_11 rfl (ev_geti (pc := 12) kF_8_162 dX8_does_12 rfl rfl (?_))))
  rw [ha]
  refine ev_iconst (pc := 15) (v := (1)) dX8_does_15 iconst_c1 (ev_iadd (pc := 16) dX8_does_16 (?_))
  rw [nI_1]
  refine ev_puti (pc := 17) kF_8_162 dX8_does_17 rfl rfl rfl rfl rfl (?_)
  have f1 : nF I (ui I 82 17 (nI (a + 1))) := nF_17 (nF_rf I)
  have s1 : ui I 82 17 (nI (a + 1)) 82 17 = nI (a + 1) := by simp [ui]
  generalize ui I 82 17 (nI (a + 1)) = I1 at f1 s1 ⊢
  have t1 := txS_of ht f1
  have one : x = 100 ∨ x = 99 ∨ x = 122 → (∀ I' u e, rdS (sgT s.2.2.2.2 s.2.2.2.1) 59 (a + 1) = some (u, e) → u < 100 → nF I I' → I' 82 17 = nI e → I' 96 0 = nI u → E me_X8_does d L 112 [some (.ref 82), some (.int x), some (.int (nI 1)), some (.int (bI true)), some (.int (nI 1))] [.int x] I' J p Q) → E me_X8_does d L 67 [some (.ref 82), some (.int x), some (.int (nI 1)), some (.int (bI true)), some (.int (nI 0))] [] I1 J p Q := by
    intro hx kk
    have x119 : ¬ x = 119 := by rcases hx with rfl | rfl | rfl <;> decide
    rw [if_neg x119, if_pos hx] at kn
    refine dz_num (c := 59) (by omega) (by omega) (by omega) rfl t1 (by omega) s1 (by omega) (fun I' h1 h2 => ?_) (fun I' u e h1 h2 h3 h4 h5 h6 => ?_)
    · have h1 : rdS (sgT s.2.2.2.2 s.2.2.2.1) 59 (a + 1) = none := h1
      rw [h1] at kn
      exact dz_fail (by omega) (by omega) (kn I' rfl (pF_n (nF_tr f1 h2)) (Mod_n hm (nF_tr f1 h2)))
    · have h1 : rdS (sgT s.2.2.2.2 s.2.2.2.1) 59 (a + 1) = some (u, e) := h1
      refine ev_iload (pc := 67) dX8_does_67 rfl (ev_iload_n (pc := 69) dX8_does_69 rfl (ev_ncmp_ge (pc := 70) 105 (0 + 1) (1) dX8_does_70 (by decide) (rfl) (rfl) (by omega) (by omega) (kf := fun c => absurd c (by omega)) (kt := fun c70 => ev_iload_n (pc := 105) dX8_does_105 rfl (ev_ifb_ne (pc := 106) 111 dX8_does_106 (by decide) (kf := fun c => absurd c (by simp)) (kt := fun c106 => ev_iload_n (pc := 111) dX8_does_111 rfl (?_))))))
      exact kk I' u e h1 (rdS_lt h1).1 (nF_tr f1 h3) h4 h5
  by_cases x119 : x = 119
  · subst x119
    rw [if_pos rfl] at kn
    have kn := kn
    rw [if_pos rfl] at ks
    refine ev_iload_n (pc := 20) dX8_does_20 rfl (ev_bipush (pc := 21) (v := (119)) dX8_does_21 bipush_c119 (ev_icmp_ne (pc := 23) 30 dX8_does_23 (by decide) (kt := fun c => absurd (rfl) c) (kf := fun c23 => ev_iconst (pc := 26) (v := (3)) dX8_does_26 iconst_c3 (ev_goto (pc := 27) 53 dX8_does_27 (by decide) (ev_istore_n (pc := 53) dX8_does_53 rfl (ev_iload_n (pc := 54) dX8_does_54 rfl (ev_if_le (pc := 55) 62 dX8_does_55 (by decide) (kt := fun c => absurd c (by decide)) (kf := fun c55 => ev_iconst (pc := 58) (v := (1)) dX8_does_58 iconst_c1 (ev_goto (pc := 59) 63 dX8_does_59 (by decide) (ev_istore_n (pc := 63) dX8_does_63 rfl (ev_iconst (pc := 64) (v := (0)) dX8_does_64 iconst_c0 (ev_istore (pc := 65) dX8_does_65 rfl (?_)))))))))))))
    refine dz_num (m := 3) (k := 0) (c := 44) (by omega) (by omega) (by omega) rfl t1 (by omega) s1 (by omega) (fun I' h1 h2 => ?_) (fun I2 u b h1 h2 h3 h4 h5 h6 => ?_)
    · have h1 : rdS (sgT s.2.2.2.2 s.2.2.2.1) 44 (a + 1) = none := h1
      rw [h1] at kn
      exact dz_fail (by omega) (by omega) (kn I' rfl (pF_n (nF_tr f1 h2)) (Mod_n hm (nF_tr f1 h2)))
    have h1 : rdS (sgT s.2.2.2.2 s.2.2.2.1) 44 (a + 1) = some (u, b) := h1
    rw [h1] at kn ks
    dsimp only at kn ks
    have f2 := nF_tr f1 h3
    refine dz_num (m := 3) (k := 1) (c := 44) (by omega) (by omega) (by omega) rfl (txS_of ht f2) (by omega) h4 (by omega) (fun I' g1 g2 => ?_) (fun I3 v b2 g1 g2 g3 g4 g5 g6 => ?_)
    · have g1 : rdS (sgT s.2.2.2.2 s.2.2.2.1) 44 b = none := g1
      rw [g1] at kn
      exact dz_fail (by omega) (by omega) (kn I' rfl (pF_n (nF_tr f2 g2)) (Mod_n hm (nF_tr f2 g2)))
    have g1 : rdS (sgT s.2.2.2.2 s.2.2.2.1) 44 b = some (v, b2) := g1
    rw [g1] at kn ks
    dsimp only at kn ks
    have f3 := nF_tr f2 g3
    refine dz_num (m := 3) (k := 2) (c := 59) (by omega) (by omega) (by omega) rfl (txS_of ht f3) (by omega) g4 (by omega) (fun I' r1 r2 => ?_) (fun I4 w e r1 r2 r3 r4 r5 r6 => ?_)
    · have r1 : rdS (sgT s.2.2.2.2 s.2.2.2.1) 59 b2 = none := r1
      rw [r1] at kn
      exact dz_fail (by omega) (by omega) (kn I' rfl (pF_n (nF_tr f3 r2)) (Mod_n hm (nF_tr f3 r2)))
    have r1 : rdS (sgT s.2.2.2.2 s.2.2.2.1) 59 b2 = some (w, e) := r1
    rw [r1] at ks
    dsimp only at ks
    have f4 := nF_tr f3 r3
    have m4 := Mod_n hm f4
    have hu := (rdS_lt h1).1
    have hv := (rdS_lt g1).1
    have hw' := (rdS_lt r1).1
    have q0 : I4 96 0 = nI u := by rw [r6 0 (by omega), g6 0 (by omega), h5]
    have q1 : I4 96 1 = nI v := by rw [r6 1 (by omega), g5]
    refine ev_iload (pc := 67) dX8_does_67 rfl (ev_iload_n (pc := 69) dX8_does_69 rfl (ev_ncmp_ge (pc := 70) 105 (2 + 1) (3) dX8_does_70 (by decide) (rfl) (rfl) (by omega) (by omega) (kf := fun c => absurd c (by omega)) (kt := fun c70 => ev_iload_n (pc := 105) dX8_does_105 rfl (ev_ifb_ne (pc := 106) 111 dX8_does_106 (by decide) (kf := fun c => absurd c (by simp)) (kt := fun c106 => ev_iload_n (pc := 111) dX8_does_111 rfl (?_))))))
    refine ev_lookup (pc := 112) (off := 36) 148 dX8_does_112 (by decide) (by decide) (by decide) ?_
    refine ev_aload_n (pc := 148) dX8_does_148 rfl (ev_aload_n (pc := 149) dX8_does_149 rfl (ev_aload_n (pc := 150) dX8_does_150 rfl (ev_getr (pc := 151) kF_8_49 dX8_does_151 rfl rfl rfl (ev_iconst (pc := 154) (v := (0)) dX8_does_154 iconst_c0 (ev_iald (pc := 155) (i := 0) dX8_does_155 rfl (rfl) (by omega) rfl (?_))))))
    rw [q0]
    refine ev_aload_n (pc := 156) dX8_does_156 rfl (ev_getr (pc := 157) kF_8_49 dX8_does_157 rfl rfl rfl (ev_iconst (pc := 160) (v := (1)) dX8_does_160 iconst_c1 (ev_iald (pc := 161) (i := 1) dX8_does_161 rfl (rfl) (by omega) rfl (?_))))
    rw [q1]
    refine ev_aload_n (pc := 162) dX8_does_162 rfl (ev_getr (pc := 163) kF_8_49 dX8_does_163 rfl rfl rfl (ev_iconst (pc := 166) (v := (2)) dX8_does_166 iconst_c2 (ev_iald (pc := 167) (i := 2) dX8_does_167 rfl (rfl) (by omega) rfl (?_))))
    rw [r5]
    refine ev_iconst (pc := 168) (v := (0)) dX8_does_168 iconst_c0 (ev_invV (pc := 169) kV_8_171 dX8_does_169 rfl rfl rfl (by omega) rfl ?_)
    refine m_write (by omega) m4 hw.1 hn4 _ _ _ _ fun I5 m5 w5 => ?_
    rw [do_w hu hv hw'] at m5 ⊢
    refine ev_invV (pc := 172) kV_8_175 dX8_does_172 rfl rfl rfl (by omega) rfl ?_
    refine m_asReason _ ?_
    refine ev_iret (pc := 175) dX8_does_175 rfl ?_
    exact ks I5 119 u v w e rfl (pF_w f4 w5) m5 (by rw [w5.2 17 (by decide) (by decide)]; exact r4)
  rw [if_neg x119] at kn ks
  by_cases x100 : x = 100
  · subst x100
    rw [if_pos (Or.inl rfl)] at ks
    refine ev_iload_n (pc := 20) dX8_does_20 rfl (ev_bipush (pc := 21) (v := (119)) dX8_does_21 bipush_c119 (ev_icmp_ne (pc := 23) 30 dX8_does_23 (by decide) (kf := fun c => absurd c (by decide)) (kt := fun c23 => ev_iload_n (pc := 30) dX8_does_30 rfl (ev_bipush (pc := 31) (v := (100)) dX8_does_31 bipush_c100 (ev_icmp_eq (pc := 33) 48 dX8_does_33 (by decide) (kf := fun c => absurd (rfl) c) (kt := fun c33 => ev_iconst (pc := 48) (v := (1)) dX8_does_48 iconst_c1 (ev_goto (pc := 49) 53 dX8_does_49 (by decide) (ev_istore_n (pc := 53) dX8_does_53 rfl (ev_iload_n (pc := 54) dX8_does_54 rfl (ev_if_le (pc := 55) 62 dX8_does_55 (by decide) (kt := fun c => absurd c (by decide)) (kf := fun c55 => ev_iconst (pc := 58) (v := (1)) dX8_does_58 iconst_c1 (ev_goto (pc := 59) 63 dX8_does_59 (by decide) (ev_istore_n (pc := 63) dX8_does_63 rfl (ev_iconst (pc := 64) (v := (0)) dX8_does_64 iconst_c0 (ev_istore (pc := 65) dX8_does_65 rfl (?_))))))))))))))))
    refine one (Or.inl rfl) fun I4 u e h1 hu f4 r4 q0 => ?_
    rw [h1] at ks
    have m4 := Mod_n hm f4
    refine ev_lookup (pc := 112) (off := 64) 176 dX8_does_112 (by decide) (by decide) (by decide) ?_
    refine ev_aload_n (pc := 176) dX8_does_176 rfl (ev_aload_n (pc := 177) dX8_does_177 rfl (ev_aload_n (pc := 178) dX8_does_178 rfl (ev_getr (pc := 179) kF_8_49 dX8_does_179 rfl rfl rfl (ev_iconst (pc := 182) (v := (0)) dX8_does_182 iconst_c0 (ev_iald (pc := 183) (i := 0) dX8_does_183 rfl (rfl) (by omega) rfl (?_))))))
    rw [q0]
    refine ev_invV (pc := 184) kV_8_178 dX8_does_184 rfl rfl rfl (by omega) rfl ?_
    refine m_delete (by omega) m4 hw.1 hn4 _ fun I5 m5 w5 => ?_
    rw [do_d hu] at m5 ⊢
    refine ev_invV (pc := 187) kV_8_175 dX8_does_187 rfl rfl rfl (by omega) rfl ?_
    refine m_asReason _ ?_
    refine ev_iret (pc := 190) dX8_does_190 rfl ?_
    exact ks I5 100 u 0 0 e rfl (pF_w f4 w5) m5 (by rw [w5.2 17 (by decide) (by decide)]; exact r4)
  by_cases x99 : x = 99
  · subst x99
    rw [if_pos (Or.inr (Or.inl rfl))] at ks
    refine ev_iload_n (pc := 20) dX8_does_20 rfl (ev_bipush (pc := 21) (v := (119)) dX8_does_21 bipush_c119 (ev_icmp_ne (pc := 23) 30 dX8_does_23 (by decide) (kf := fun c => absurd c (by decide)) (kt := fun c23 => ev_iload_n (pc := 30) dX8_does_30 rfl (ev_bipush (pc := 31) (v := (100)) dX8_does_31 bipush_c100 (ev_icmp_eq (pc := 33) 48 dX8_does_33 (by decide) (kt := fun c => absurd c (by decide)) (kf := fun c33 => ev_iload_n (pc := 36) dX8_does_36 rfl (ev_bipush (pc := 37) (v := (99)) dX8_does_37 bipush_c99 (ev_icmp_eq (pc := 39) 48 dX8_does_39 (by decide) (kf := fun c => absurd (rfl) c) (kt := fun c39 => ev_iconst (pc := 48) (v := (1)) dX8_does_48 iconst_c1 (ev_goto (pc := 49) 53 dX8_does_49 (by decide) (ev_istore_n (pc := 53) dX8_does_53 rfl (ev_iload_n (pc := 54) dX8_does_54 rfl (ev_if_le (pc := 55) 62 dX8_does_55 (by decide) (kt := fun c => absurd c (by decide)) (kf := fun c55 => ev_iconst (pc := 58) (v := (1)) dX8_does_58 iconst_c1 (ev_goto (pc := 59) 63 dX8_does_59 (by decide) (ev_istore_n (pc := 63) dX8_does_63 rfl (ev_iconst (pc := 64) (v := (0)) dX8_does_64 iconst_c0 (ev_istore (pc := 65) dX8_does_65 rfl (?_)))))))))))))))))))
    refine one (Or.inr (Or.inl rfl)) fun I4 u e h1 hu f4 r4 q0 => ?_
    rw [h1] at ks
    have m4 := Mod_n hm f4
    refine ev_lookup (pc := 112) (off := 79) 191 dX8_does_112 (by decide) (by decide) (by decide) ?_
    refine ev_aload_n (pc := 191) dX8_does_191 rfl (ev_aload_n (pc := 192) dX8_does_192 rfl (ev_aload_n (pc := 193) dX8_does_193 rfl (ev_getr (pc := 194) kF_8_49 dX8_does_194 rfl rfl rfl (ev_iconst (pc := 197) (v := (0)) dX8_does_197 iconst_c0 (ev_iald (pc := 198) (i := 0) dX8_does_198 rfl (rfl) (by omega) rfl (?_))))))
    rw [q0]
    refine ev_iconst (pc := 199) (v := (-1)) dX8_does_199 iconst_cm1 (ev_invV (pc := 200) kV_8_181 dX8_does_200 rfl rfl rfl (by omega) rfl ?_)
    refine m_claim (by omega) m4 hw.1 hn4 _ _ fun I5 m5 w5 => ?_
    rw [do_c hu] at m5 ⊢
    refine ev_invV (pc := 203) kV_8_175 dX8_does_203 rfl rfl rfl (by omega) rfl ?_
    refine m_asReason _ ?_
    refine ev_iret (pc := 206) dX8_does_206 rfl ?_
    exact ks I5 99 u 0 0 e rfl (pF_w f4 w5) m5 (by rw [w5.2 17 (by decide) (by decide)]; exact r4)
  by_cases x122 : x = 122
  · subst x122
    rw [if_pos (Or.inr (Or.inr rfl))] at ks
    refine ev_iload_n (pc := 20) dX8_does_20 rfl (ev_bipush (pc := 21) (v := (119)) dX8_does_21 bipush_c119 (ev_icmp_ne (pc := 23) 30 dX8_does_23 (by decide) (kf := fun c => absurd c (by decide)) (kt := fun c23 => ev_iload_n (pc := 30) dX8_does_30 rfl (ev_bipush (pc := 31) (v := (100)) dX8_does_31 bipush_c100 (ev_icmp_eq (pc := 33) 48 dX8_does_33 (by decide) (kt := fun c => absurd c (by decide)) (kf := fun c33 => ev_iload_n (pc := 36) dX8_does_36 rfl (ev_bipush (pc := 37) (v := (99)) dX8_does_37 bipush_c99 (ev_icmp_eq (pc := 39) 48 dX8_does_39 (by decide) (kt := fun c => absurd c (by decide)) (kf := fun c39 => ev_iload_n (pc := 42) dX8_does_42 rfl (ev_bipush (pc := 43) (v := (122)) dX8_does_43 bipush_c122 (ev_icmp_ne (pc := 45) 52 dX8_does_45 (by decide) (kt := fun c => absurd (rfl) c) (kf := fun c45 => ev_iconst (pc := 48) (v := (1)) dX8_does_48 iconst_c1 (ev_goto (pc := 49) 53 dX8_does_49 (by decide) (ev_istore_n (pc := 53) dX8_does_53 rfl (ev_iload_n (pc := 54) dX8_does_54 rfl (ev_if_le (pc := 55) 62 dX8_does_55 (by decide) (kt := fun c => absurd c (by decide)) (kf := fun c55 => ev_iconst (pc := 58) (v := (1)) dX8_does_58 iconst_c1 (ev_goto (pc := 59) 63 dX8_does_59 (by decide) (ev_istore_n (pc := 63) dX8_does_63 rfl (ev_iconst (pc := 64) (v := (0)) dX8_does_64 iconst_c0 (ev_istore (pc := 65) dX8_does_65 rfl (?_))))))))))))))))))))))
    refine one (Or.inr (Or.inr rfl)) fun I4 u e h1 hu f4 r4 q0 => ?_
    rw [h1] at ks
    have m4 := Mod_n hm f4
    refine ev_lookup (pc := 112) (off := 95) 207 dX8_does_112 (by decide) (by decide) (by decide) ?_
    refine ev_aload_n (pc := 207) dX8_does_207 rfl (ev_aload_n (pc := 208) dX8_does_208 rfl (ev_aload_n (pc := 209) dX8_does_209 rfl (ev_getr (pc := 210) kF_8_49 dX8_does_210 rfl rfl rfl (ev_iconst (pc := 213) (v := (0)) dX8_does_213 iconst_c0 (ev_iald (pc := 214) (i := 0) dX8_does_214 rfl (rfl) (by omega) rfl (?_))))))
    rw [q0]
    refine ev_invV (pc := 215) kV_8_184 dX8_does_215 rfl rfl rfl (by omega) rfl ?_
    refine m_wipe (by omega) m4 hw.1 hn4 _ fun I5 m5 w5 => ?_
    rw [do_z hu] at m5 ⊢
    refine ev_invV (pc := 218) kV_8_175 dX8_does_218 rfl rfl rfl (by omega) rfl ?_
    refine m_asReason _ ?_
    refine ev_iret (pc := 221) dX8_does_221 rfl ?_
    exact ks I5 122 u 0 0 e rfl (pF_w f4 w5) m5 (by rw [w5.2 17 (by decide) (by decide)]; exact r4)
  · rw [if_neg (fun h => h.elim x100 (fun h => h.elim x99 x122))] at kn
    refine ev_iload_n (pc := 20) dX8_does_20 rfl (ev_bipush (pc := 21) (v := (119)) dX8_does_21 bipush_c119 (ev_icmp_ne (pc := 23) 30 dX8_does_23 (by decide) (kf := fun c => absurd c (x119)) (kt := fun c23 => ev_iload_n (pc := 30) dX8_does_30 rfl (ev_bipush (pc := 31) (v := (100)) dX8_does_31 bipush_c100 (ev_icmp_eq (pc := 33) 48 dX8_does_33 (by decide) (kt := fun c => absurd c (x100)) (kf := fun c33 => ev_iload_n (pc := 36) dX8_does_36 rfl (ev_bipush (pc := 37) (v := (99)) dX8_does_37 bipush_c99 (ev_icmp_eq (pc := 39) 48 dX8_does_39 (by decide) (kt := fun c => absurd c (x99)) (kf := fun c39 => ev_iload_n (pc := 42) dX8_does_42 rfl (ev_bipush (pc := 43) (v := (122)) dX8_does_43 bipush_c122 (ev_icmp_ne (pc := 45) 52 dX8_does_45 (by decide) (kf := fun c => absurd c (x122)) (kt := fun c45 => ev_iconst (pc := 52) (v := (0)) dX8_does_52 iconst_c0 (ev_istore_n (pc := 53) dX8_does_53 rfl (ev_iload_n (pc := 54) dX8_does_54 rfl (ev_if_le (pc := 55) 62 dX8_does_55 (by decide) (kf := fun c => absurd (by decide) c) (kt := fun c55 => ev_iconst (pc := 62) (v := (0)) dX8_does_62 iconst_c0 (ev_istore_n (pc := 63) dX8_does_63 rfl (ev_iconst (pc := 64) (v := (0)) dX8_does_64 iconst_c0 (ev_istore (pc := 65) dX8_does_65 rfl (ev_iload (pc := 67) dX8_does_67 rfl (ev_iload_n (pc := 69) dX8_does_69 rfl (ev_ncmp_ge (pc := 70) 105 (0) (0) dX8_does_70 (by decide) (rfl) (rfl) (by omega) (by omega) (kf := fun c => absurd c (by omega)) (kt := fun c70 => ev_iload_n (pc := 105) dX8_does_105 rfl (ev_if_ne (pc := 106) 111 dX8_does_106 (by decide) (kt := fun c => absurd (rfl) c) (kf := fun c106 => ev_iconst (pc := 109) (v := (1)) dX8_does_109 iconst_c1 (ev_iret (pc := 110) dX8_does_110 rfl ?_))))))))))))))))))))))))))
    exact kn _ rfl (pF_n f1) (Mod_n hm f1)
end T65
