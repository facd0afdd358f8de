/-! ===== would, gentlest, count ===== -/
section T39
variable {d L : Nat} {I : Nat → Nat → Int32} {J : Nat → Nat → Int64} {p : Nat → Nat} {Q : Option Value → am_M → Prop} {s : Sta}
theorem frR_eq {P R : Nat → Bool} (h : ∀ j, j < 40 → P j = R j) : cntB (frR P) 40 = cntB (frR R) 40 := cntB_congr 40 fun j hj => by
  unfold frR
  rw [h j hj, h (j - 1) (by omega)]
theorem c_would (hd : 7 ≤ d) (hc : Cls I p s) (hw : Wst s) (a b c : Int32) (k : ∀ I' J', Cls I' p s → cfr I I' → Q (some (.int (oWould s a b c))) (I', J', KR p)) : T d me_X7_would [.ref 1, .int a, .int b, .int c] L I J p Q := by
  refine am_enter [some (.ref 1), some (.int a), some (.int b), some (.int c)] rfl rfl rfl rfl ?_
  unfold oWould at k
  have h := hc.2.1
  refine ev_iload_n (pc := 0) dX7_would_0 rfl (ev_invS (pc := 1) kS_7_52 dX7_would_1 rfl (by omega) rfl ?_)
  refine t_isLength (by omega) a ?_
  cases q1 : inR 1 12 a
  · rw [q1, Bool.false_and, if_neg (by decide)] at k
    refine ev_ifb_eq (pc := 4) 23 dX7_would_4 (by decide) (kf := fun c => absurd c (by simp)) (kt := fun c4 => ev_ldc (pc := 23) kC_7_58 dX7_would_23 (ev_iret (pc := 25) dX7_would_25 rfl ?_))
    exact k _ _ hc (cfr_rf I)
  refine ev_ifb_eq (pc := 4) 23 dX7_would_4 (by decide) (kt := fun c => absurd c (by simp)) (kf := fun c4 => ev_iload_n (pc := 7) dX7_would_7 rfl (ev_invS (pc := 8) kS_7_55 dX7_would_8 rfl (by omega) rfl ?_))
  refine t_isLayout (by omega) b ?_
  cases q2 : inR 0 2 b
  · rw [q2, Bool.false_and, Bool.and_false, if_neg (by decide)] at k
    refine ev_ifb_eq (pc := 11) 23 dX7_would_11 (by decide) (kf := fun c => absurd c (by simp)) (kt := fun c11 => ev_ldc (pc := 23) kC_7_58 dX7_would_23 (ev_iret (pc := 25) dX7_would_25 rfl ?_))
    exact k _ _ hc (cfr_rf I)
  refine ev_ifb_eq (pc := 11) 23 dX7_would_11 (by decide) (kt := fun c => absurd c (by simp)) (kf := fun c11 => ev_iload_n (pc := 14) dX7_would_14 rfl (ev_iconst (pc := 15) (v := (0)) dX7_would_15 iconst_c0 (ev_iconst (pc := 16) (v := (3)) dX7_would_16 iconst_c3 (ev_invS (pc := 17) kS_7_48 dX7_would_17 rfl (by omega) rfl ?_))))
  refine t_within 0 3 c ?_
  cases q3 : inR 0 3 c
  · rw [q3, Bool.and_false, Bool.and_false, if_neg (by decide)] at k
    refine ev_ifb_ne (pc := 20) 26 dX7_would_20 (by decide) (kt := fun c => absurd c (by simp)) (kf := fun c20 => ev_ldc (pc := 23) kC_7_58 dX7_would_23 (ev_iret (pc := 25) dX7_would_25 rfl ?_))
    exact k _ _ hc (cfr_rf I)
  rw [q1, q2, q3, if_pos (by decide)] at k
  obtain ⟨len, n1, n2, rfl⟩ := inR_n (by omega) (by omega) q1
  obtain ⟨lay, n3, n4, rfl⟩ := inR_n (by omega) (by omega) q2
  obtain ⟨w, n5, n6, rfl⟩ := inR_n (by omega) (by omega) q3
  rw [nI_clamp (by omega), nI_clamp (by omega), nI_clamp (by omega)] at k
  unfold wouV at k
  have ec : cntB (frP I) 40 = cntB (fD s.1) 40 := cntB_congr 40 (rp_fr h)
  have hle := cntB_le (fD s.1) 40
  refine ev_ifb_ne (pc := 20) 26 dX7_would_20 (by decide) (kf := fun c => absurd c (by simp)) (kt := fun c20 => ev_aload_n (pc := 26) dX7_would_26 rfl (ev_getr (pc := 27) kF_7_10 dX7_would_27 rfl rfl rfl (ev_invV (pc := 30) kV_7_202 dX7_would_30 rfl rfl rfl (by omega) rfl ?_)))
  refine t_X0_freePages (by omega) ?_
  rw [ec]
  refine ev_iload_n (pc := 33) dX7_would_33 rfl (ev_ncmp_ge (pc := 34) 40 (cntB (fD s.1) 40) (len) dX7_would_34 (by decide) (rfl) (rfl) (by omega) (by omega) (fun c34 => ?_) (fun c34 => ?_))
  · rw [if_neg (by omega)] at k
    refine ev_aload_n (pc := 40) dX7_would_40 rfl (ev_getr (pc := 41) kF_7_40 dX7_would_41 rfl rfl rfl (ev_aload_n (pc := 44) dX7_would_44 rfl (ev_getr (pc := 45) kF_7_10 dX7_would_45 rfl rfl rfl (ev_iload_n (pc := 48) dX7_would_48 rfl (ev_iload_n (pc := 49) dX7_would_49 rfl (ev_invV (pc := 50) kV_7_207 dX7_would_50 rfl rfl rfl (by omega) rfl ?_))))))
    refine t_allot (by omega) n2 (by omega) fun I1 hr hf => ?_
    have ep : chC (frP I) len lay = chC (fD s.1) len lay := chC_congr (rp_fr h)
    rw [ep] at hr
    obtain ⟨o1, o2⟩ := chC_ok (lay := lay) (show len ≤ cntB (fD s.1) 40 by omega)
    generalize chC (fD s.1) len lay = ps at hr o1 o2 k
    obtain ⟨e1, e2⟩ := Cls_gfr (I1 := I1) hw hc (fun a ha => hf a (by omega) (by omega))
    have r1 := e1.2.1
    have ps40 : ∀ q ∈ ps, q < 40 := fun q hq => (o1.2 q hq).1
    by_cases w0 : w = 0
    · subst w0
      rw [if_pos rfl] at k
      refine ev_iload_n (pc := 53) dX7_would_53 rfl (ev_if_ne (pc := 54) 66 dX7_would_54 (by decide) (kt := fun c => absurd (rfl) c) (kf := fun c54 => ev_aload_n (pc := 57) dX7_would_57 rfl (ev_getr (pc := 58) kF_7_40 dX7_would_58 rfl rfl rfl (ev_iconst (pc := 61) (v := (0)) dX7_would_61 iconst_c0 (ev_invV (pc := 62) kV_7_187 dX7_would_62 rfl rfl rfl (by omega) rfl ?_)))))
      refine t_rm_at (k := 0) hr (by omega) ?_
      rw [if_pos (by omega)]
      refine ev_iret (pc := 65) dX7_would_65 rfl ?_
      exact k _ _ e1 e2
    by_cases w1 : w = 1
    · subst w1
      rw [if_neg (by decide), if_pos rfl] at k
      refine ev_iload_n (pc := 53) dX7_would_53 rfl (ev_if_ne (pc := 54) 66 dX7_would_54 (by decide) (kf := fun c => absurd c (by decide)) (kt := fun c54 => ev_iload_n (pc := 66) dX7_would_66 rfl (ev_iconst (pc := 67) (v := (1)) dX7_would_67 iconst_c1 (ev_icmp_ne (pc := 68) 86 dX7_would_68 (by decide) (kt := fun c => absurd (by decide) c) (kf := fun c68 => ev_aload_n (pc := 71) dX7_would_71 rfl (ev_getr (pc := 72) kF_7_10 dX7_would_72 rfl rfl rfl (ev_aload_n (pc := 75) dX7_would_75 rfl (ev_getr (pc := 76) kF_7_40 dX7_would_76 rfl rfl rfl (ev_invV (pc := 79) kV_7_211 dX7_would_79 rfl rfl rfl (by omega) rfl ?_)))))))))
      refine t_rm_set hr ?_
      refine ev_invV (pc := 82) kV_7_84 dX7_would_82 rfl rfl rfl (by omega) rfl ?_
      refine t_X0_markedPages _ ?_
      have em : cntB (fun j => bl (stS ps ps.length) j && decide (I1 3 j ≠ 0)) 40 = cntB (fun j => decide (j ∈ ps) && decide (s.1 j ≠ 0)) 40 := cntB_congr 40 fun j hj => by
        rw [bl_stS ps40 j _ (Nat.le_refl _), List.take_length, rp_m r1 hj]
      rw [em]
      refine ev_iret (pc := 85) dX7_would_85 rfl ?_
      exact k _ _ e1 e2
    rw [if_neg w0, if_neg w1] at k
    refine ev_iload_n (pc := 53) dX7_would_53 rfl (ev_if_ne (pc := 54) 66 dX7_would_54 (by decide) (kf := fun c => absurd c (nI_ne0 (by omega) (by omega))) (kt := fun c54 => ev_iload_n (pc := 66) dX7_would_66 rfl (ev_iconst (pc := 67) (v := (1)) dX7_would_67 iconst_c1 (ev_icmp_ne (pc := 68) 86 dX7_would_68 (by decide) (kf := fun c => absurd c (fun q => w1 ((nI_eq (b := 1) (by omega) (by omega)).mp q))) (kt := fun c68 => ev_aload_n (pc := 86) dX7_would_86 rfl (ev_getr (pc := 87) kF_7_19 dX7_would_87 rfl rfl rfl (ev_aload_n (pc := 90) dX7_would_90 rfl (ev_getr (pc := 91) kF_7_10 dX7_would_91 rfl rfl rfl (ev_aload_n (pc := 94) dX7_would_94 rfl (ev_getr (pc := 95) kF_7_10 dX7_would_95 rfl rfl rfl (ev_invV (pc := 98) kV_7_80 dX7_would_98 rfl rfl rfl (by omega) rfl ?_)))))))))))
    refine t_X0_freeSet ?_
    refine ev_aload_n (pc := 101) dX7_would_101 rfl (ev_getr (pc := 102) kF_7_40 dX7_would_102 rfl rfl rfl (ev_invV (pc := 105) kV_7_211 dX7_would_105 rfl rfl rfl (by omega) rfl ?_))
    refine t_rm_set hr ?_
    refine ev_ldc2 (pc := 108) kL_7_214 dX7_would_108 (ev_lxor (pc := 111) dX7_would_111 (ev_land (pc := 112) dX7_would_112 (ev_invV (pc := 113) kV_7_136 dX7_would_113 rfl rfl rfl (by omega) rfl ?_)))
    refine t_findD (by omega) r1 hw.1 (fw_bl r1 ps40) fun I2 J2 hf2 hO hr2 => ?_
    obtain ⟨e3, e4⟩ := Cls_gfr (I1 := I2) hw e1 (fun a ha => hr2.1 a (by omega))
    by_cases w2 : w = 2
    · subst w2
      rw [if_pos rfl] at k
      refine ev_iload_n (pc := 116) dX7_would_116 rfl (ev_iconst (pc := 117) (v := (2)) dX7_would_117 iconst_c2 (ev_icmp_ne (pc := 118) 131 dX7_would_118 (by decide) (kt := fun c => absurd (by decide) c) (kf := fun c118 => ev_aload_n (pc := 121) dX7_would_121 rfl (ev_getr (pc := 122) kF_7_19 dX7_would_122 rfl rfl rfl (ev_geti (pc := 125) kF_7_152 dX7_would_125 rfl rfl (ev_goto (pc := 128) 142 dX7_would_128 (by decide) (ev_iret (pc := 142) dX7_would_142 rfl ?_)))))))
      rw [hO.1]
      exact k _ _ e3 (cfr_tr e2 e4)
    · rw [if_neg w2] at k
      refine ev_iload_n (pc := 116) dX7_would_116 rfl (ev_iconst (pc := 117) (v := (2)) dX7_would_117 iconst_c2 (ev_icmp_ne (pc := 118) 131 dX7_would_118 (by decide) (kf := fun c => absurd c (fun q => w2 ((nI_eq (b := 2) (by omega) (by omega)).mp q))) (kt := fun c118 => ev_aload_n (pc := 131) dX7_would_131 rfl (ev_getr (pc := 132) kF_7_19 dX7_would_132 rfl rfl rfl (ev_invV (pc := 135) kV_7_216 dX7_would_135 rfl rfl rfl (by omega) rfl ?_)))))
      refine t_sum gl_40 hO ?_
      refine ev_sipush (pc := 138) (v := (3000)) dX7_would_138 sipush_c3000 (ev_iadd (pc := 141) dX7_would_141 (ev_iret (pc := 142) dX7_would_142 rfl ?_))
      exact k _ _ e3 (cfr_tr e2 e4)
  · rw [if_pos (by omega)] at k
    refine ev_ldc (pc := 37) kC_7_206 dX7_would_37 (ev_iret (pc := 39) dX7_would_39 rfl ?_)
    exact k _ _ hc (cfr_rf I)
theorem lp_gent (hd : 6 ≤ d) (hw : Wst s) {len : Nat} (hlen : 1 ≤ len ∧ len ≤ 12 ∧ len ≤ cntB (fD s.1) 40) (I : Nat → Nat → Int32) (k : ∀ I' J', Cls I' p s → cfr I I' → Q (some (.int (nI (gB (fun lay => sumD s.1 (frW s.1 (chC (fD s.1) len lay))) 3).1))) (I', J', KR p)) : ∀ (n i : Nat) (o : Option Value) (I1 : Nat → Nat → Int32) (J1 : Nat → Nat → Int64), i + n = 3 → Cls I1 p s → cfr I I1 →
    E me_X7_gentlest d L 31 [some (.ref 1), some (.int (nI len)), some (.int (nI (gB (fun lay => sumD s.1 (frW s.1 (chC (fD s.1) len lay))) i).1)), some (.int (gB (fun lay => sumD s.1 (frW s.1 (chC (fD s.1) len lay))) i).2), some (.int (nI i)), o] [] I1 J1 p Q
  | 0, i, o, I1, J1, hi, hc, hf => by
    have e : i = 3 := by omega
    subst e
    refine ev_iload (pc := 31) dX7_gentlest_31 rfl (ev_iconst (pc := 33) (v := (3)) dX7_gentlest_33 iconst_c3 (ev_ncmp_ge (pc := 34) 113 (3) (3) dX7_gentlest_34 (by decide) (rfl) (rfl) (by omega) (by omega) (kf := fun c => absurd c (by omega)) (kt := fun c34 => ev_iload_n (pc := 113) dX7_gentlest_113 rfl (ev_iret (pc := 114) dX7_gentlest_114 rfl ?_))))
    exact k I1 J1 hc hf
  | n + 1, i, o, I1, J1, hi, hc, hf => by
    have h := hc.2.1
    have ih := lp_gent hd hw hlen I k n (i + 1)
    generalize hF : (fun lay => sumD s.1 (frW s.1 (chC (fD s.1) len lay))) = F at k ih ⊢
    refine ev_iload (pc := 31) dX7_gentlest_31 rfl (ev_iconst (pc := 33) (v := (3)) dX7_gentlest_33 iconst_c3 (ev_ncmp_ge (pc := 34) 113 (i) (3) dX7_gentlest_34 (by decide) (rfl) (rfl) (by omega) (by omega) (kt := fun c => absurd c (by omega)) (kf := fun c34 => ev_aload_n (pc := 37) dX7_gentlest_37 rfl (ev_getr (pc := 38) kF_7_40 dX7_gentlest_38 rfl rfl rfl (ev_aload_n (pc := 41) dX7_gentlest_41 rfl (ev_getr (pc := 42) kF_7_10 dX7_gentlest_42 rfl rfl rfl (ev_iload_n (pc := 45) dX7_gentlest_45 rfl (ev_iload (pc := 46) dX7_gentlest_46 rfl (ev_invV (pc := 48) kV_7_207 dX7_gentlest_48 rfl rfl rfl (by omega) rfl ?_)))))))))
    refine t_allot (by omega) hlen.2.1 (by omega) fun I2 hr hf2 => ?_
    have ep : chC (frP I1) len i = chC (fD s.1) len i := chC_congr (rp_fr h)
    rw [ep] at hr
    obtain ⟨o1, o2⟩ := chC_ok (lay := i) hlen.2.2
    have eF : F i = sumD s.1 (frW s.1 (chC (fD s.1) len i)) := by rw [← hF]
    generalize chC (fD s.1) len i = ps at hr o1 o2 eF
    obtain ⟨e1, e2⟩ := Cls_gfr (I1 := I2) hw hc (fun a ha => hf2 a (by omega) (by omega))
    have r1 := e1.2.1
    have ps40 : ∀ q ∈ ps, q < 40 := fun q hq => (o1.2 q hq).1
    refine ev_aload_n (pc := 51) dX7_gentlest_51 rfl (ev_getr (pc := 52) kF_7_19 dX7_gentlest_52 rfl rfl rfl (ev_aload_n (pc := 55) dX7_gentlest_55 rfl (ev_getr (pc := 56) kF_7_10 dX7_gentlest_56 rfl rfl rfl (ev_aload_n (pc := 59) dX7_gentlest_59 rfl (ev_getr (pc := 60) kF_7_10 dX7_gentlest_60 rfl rfl rfl (ev_invV (pc := 63) kV_7_80 dX7_gentlest_63 rfl rfl rfl (by omega) rfl ?_))))))
    refine t_X0_freeSet ?_
    refine ev_aload_n (pc := 66) dX7_gentlest_66 rfl (ev_getr (pc := 67) kF_7_40 dX7_gentlest_67 rfl rfl rfl (ev_invV (pc := 70) kV_7_211 dX7_gentlest_70 rfl rfl rfl (by omega) rfl ?_))
    refine t_rm_set hr ?_
    refine ev_ldc2 (pc := 73) kL_7_214 dX7_gentlest_73 (ev_lxor (pc := 76) dX7_gentlest_76 (ev_land (pc := 77) dX7_gentlest_77 (ev_invV (pc := 78) kV_7_136 dX7_gentlest_78 rfl rfl rfl (by omega) rfl ?_)))
    refine t_findD (by omega) r1 hw.1 (fw_bl r1 ps40) fun I3 J3 hf3 hO hr3 => ?_
    obtain ⟨e3, e4⟩ := Cls_gfr (I1 := I3) hw e1 (fun a ha => hr3.1 a (by omega))
    have e5 := cfr_tr hf (cfr_tr e2 e4)
    refine ev_aload_n (pc := 81) dX7_gentlest_81 rfl (ev_getr (pc := 82) kF_7_19 dX7_gentlest_82 rfl rfl rfl (ev_invV (pc := 85) kV_7_216 dX7_gentlest_85 rfl rfl rfl (by omega) rfl ?_))
    refine t_sum gl_40 hO ?_
    change am_Ev _ _ _ _ _ _ (.int (sumD s.1 (frW s.1 ps)) :: _) _ _ _
    rw [← eF]
    by_cases i0 : i = 0
    · have eg : gB F (i + 1) = (i, F i) := by simp only [gB]; rw [if_pos (Or.inl i0)]
      rw [eg] at ih
      subst i0
      refine ev_istore (pc := 88) dX7_gentlest_88 rfl (ev_iload (pc := 90) dX7_gentlest_90 rfl (ev_if_eq (pc := 92) 101 dX7_gentlest_92 (by decide) (kf := fun c => absurd (rfl) c) (kt := fun c92 => ev_iload (pc := 101) dX7_gentlest_101 rfl (ev_istore_n (pc := 103) dX7_gentlest_103 rfl (ev_iload (pc := 104) dX7_gentlest_104 rfl (ev_istore_n (pc := 106) dX7_gentlest_106 rfl (ev_iinc (pc := 107) dX7_gentlest_107 rfl (iinc_1 _) rfl (ev_goto (pc := 110) 31 dX7_gentlest_110 (by decide) (?_)))))))))
      exact ih _ I3 J3 (by omega) e3 e5
    · by_cases cl : (gB F i).2 < F i
      · have eg : gB F (i + 1) = (i, F i) := by simp only [gB]; rw [if_pos (Or.inr cl)]
        rw [eg] at ih
        refine ev_istore (pc := 88) dX7_gentlest_88 rfl (ev_iload (pc := 90) dX7_gentlest_90 rfl (ev_if_eq (pc := 92) 101 dX7_gentlest_92 (by decide) (kt := fun c => absurd c (nI_ne0 (by omega) (by omega))) (kf := fun c92 => ev_iload (pc := 95) dX7_gentlest_95 rfl (ev_iload_n (pc := 97) dX7_gentlest_97 rfl (ev_icmp_le (pc := 98) 107 dX7_gentlest_98 (by decide) (kt := fun c => absurd c (Int32.not_le.mpr cl)) (kf := fun c98 => ev_iload (pc := 101) dX7_gentlest_101 rfl (ev_istore_n (pc := 103) dX7_gentlest_103 rfl (ev_iload (pc := 104) dX7_gentlest_104 rfl (ev_istore_n (pc := 106) dX7_gentlest_106 rfl (ev_iinc (pc := 107) dX7_gentlest_107 rfl (iinc_1 _) rfl (ev_goto (pc := 110) 31 dX7_gentlest_110 (by decide) (?_))))))))))))
        exact ih _ I3 J3 (by omega) e3 e5
      · have eg : gB F (i + 1) = gB F i := by simp only [gB]; rw [if_neg (fun q => q.elim i0 cl)]
        rw [eg] at ih
        refine ev_istore (pc := 88) dX7_gentlest_88 rfl (ev_iload (pc := 90) dX7_gentlest_90 rfl (ev_if_eq (pc := 92) 101 dX7_gentlest_92 (by decide) (kt := fun c => absurd c (nI_ne0 (by omega) (by omega))) (kf := fun c92 => ev_iload (pc := 95) dX7_gentlest_95 rfl (ev_iload_n (pc := 97) dX7_gentlest_97 rfl (ev_icmp_le (pc := 98) 107 dX7_gentlest_98 (by decide) (kf := fun c => absurd (Int32.not_lt.mp cl) c) (kt := fun c98 => ev_iinc (pc := 107) dX7_gentlest_107 rfl (iinc_1 _) rfl (ev_goto (pc := 110) 31 dX7_gentlest_110 (by decide) (?_))))))))
        exact ih _ I3 J3 (by omega) e3 e5
theorem c_gentlest (hd : 7 ≤ d) (hc : Cls I p s) (hw : Wst s) (a : Int32) (k : ∀ I' J', Cls I' p s → cfr I I' → Q (some (.int (oGent s a))) (I', J', KR p)) : T d me_X7_gentlest [.ref 1, .int a] L I J p Q := by
  refine am_enter [some (.ref 1), some (.int a), none, none, none, none] rfl rfl rfl rfl ?_
  unfold oGent at k
  have h := hc.2.1
  refine ev_iload_n (pc := 0) dX7_gentlest_0 rfl (ev_invS (pc := 1) kS_7_52 dX7_gentlest_1 rfl (by omega) rfl ?_)
  refine t_isLength (by omega) a ?_
  cases q1 : inR 1 12 a
  · rw [q1, if_neg (by decide)] at k
    refine ev_ifb_ne (pc := 4) 10 dX7_gentlest_4 (by decide) (kt := fun c => absurd c (by simp)) (kf := fun c4 => ev_ldc (pc := 7) kC_7_58 dX7_gentlest_7 (ev_iret (pc := 9) dX7_gentlest_9 rfl ?_))
    exact k _ _ hc (cfr_rf I)
  rw [q1, if_pos rfl] at k
  obtain ⟨len, n1, n2, rfl⟩ := inR_n (by omega) (by omega) q1
  rw [nI_clamp (by omega)] at k
  unfold genV at k
  have ec : cntB (frP I) 40 = cntB (fD s.1) 40 := cntB_congr 40 (rp_fr h)
  have hle := cntB_le (fD s.1) 40
  refine ev_ifb_ne (pc := 4) 10 dX7_gentlest_4 (by decide) (kf := fun c => absurd c (by simp)) (kt := fun c4 => ev_aload_n (pc := 10) dX7_gentlest_10 rfl (ev_getr (pc := 11) kF_7_10 dX7_gentlest_11 rfl rfl rfl (ev_invV (pc := 14) kV_7_202 dX7_gentlest_14 rfl rfl rfl (by omega) rfl ?_)))
  refine t_X0_freePages (by omega) ?_
  rw [ec]
  refine ev_iload_n (pc := 17) dX7_gentlest_17 rfl (ev_ncmp_ge (pc := 18) 24 (cntB (fD s.1) 40) (len) dX7_gentlest_18 (by decide) (rfl) (rfl) (by omega) (by omega) (fun c18 => ?_) (fun c18 => ?_))
  · rw [if_neg (by omega)] at k
    refine ev_iconst (pc := 24) (v := (0)) dX7_gentlest_24 iconst_c0 (ev_istore_n (pc := 25) dX7_gentlest_25 rfl (ev_iconst (pc := 26) (v := (0)) dX7_gentlest_26 iconst_c0 (ev_istore_n (pc := 27) dX7_gentlest_27 rfl (ev_iconst (pc := 28) (v := (0)) dX7_gentlest_28 iconst_c0 (ev_istore (pc := 29) dX7_gentlest_29 rfl (?_))))))
    exact lp_gent (by omega) hw ⟨n1, n2, by omega⟩ I k 3 0 none I J (by omega) hc (cfr_rf I)
  · rw [if_pos (by omega)] at k
    refine ev_ldc (pc := 21) kC_7_206 dX7_gentlest_21 (ev_iret (pc := 23) dX7_gentlest_23 rfl ?_)
    exact k _ _ hc (cfr_rf I)
end T39
