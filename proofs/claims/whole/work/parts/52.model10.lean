/-! ===== the reference: what is told of files and the journal; undo, the text ===== -/
theorem nx_n {D : Nat → Int32} {j : Nat} (hj : j < 40) : nxD D (nI j) = D (120 + j) := by
  unfold nxD
  rw [ix_n hj (by decide)]
  rfl
theorem nx_m {D : Nat → Int32} : nxD D (-1) = -1 := by
  unfold nxD
  rw [ix_neg (by decide)]
  rfl
theorem itD_m (D : Nat → Int32) : ∀ n, itr (nxD D) n (-1) = -1
  | 0 => rfl
  | n + 1 => by
    simp only [itr, nx_m]
    exact itD_m D n
theorem itD_row {D : Nat → Int32} {n : Nat} {ps : List Nat} (h : fileD D n ps) : ∀ m i, i + m < ps.length → itr (nxD D) m (nI (ps.getD i 0)) = nI (ps.getD (i + m) 0)
  | 0, i, _ => rfl
  | m + 1, i, hi => by
    obtain ⟨a1, a2, a3⟩ := h.2.2.2.2.2 i (by omega)
    simp only [itr]
    rw [nx_n a1, a3, if_pos (by omega), itD_row h m (i + 1) (by omega), show i + 1 + m = i + (m + 1) by omega]
theorem mul3 : ∀ n, n < 6 → (3 : Int32) * nI n = nI (3 * n) := by decide
section T52
variable {d L : Nat} {I : Nat → Nat → Int32} {J : Nat → Nat → Int64} {p : Nat → Nat} {Q : Option Value → am_M → Prop} {s : Sta} {rn : Bool} {D : Nat → Int32}
theorem lp_pof (hr : rowM I D) (hw : wfD D) {n k : Nat} (hk : k < 2 ^ 31) : ∀ (m i : Nat) (q : Int32), i + m = k → (q = -1 ∨ ∃ j, j < 40 ∧ q = nI j) → Q (some (.int (fdD (itr (nxD D) m q)))) (I, J, KR p) → E me_X8_pageOfFile d L 14 [some (.ref 82), some (.int (nI n)), some (.int (nI k)), some (.int q), some (.int (nI i))] [] I J p Q
  | 0, i, q, hi, hq, h => by
    simp only [itr] at h
    unfold fdD at h
    rcases hq with rfl | ⟨j, j1, rfl⟩
    · refine ev_iload (pc := 14) dX8_pageOfFile_14 rfl (ev_iload_n (pc := 16) dX8_pageOfFile_16 rfl (ev_ncmp_ge (pc := 17) 40 (i) (k) dX8_pageOfFile_17 (by decide) (rfl) (rfl) (by omega) (by omega) (kf := fun c => absurd c (by omega)) (kt := fun c17 => ev_iload_n (pc := 40) dX8_pageOfFile_40 rfl (ev_if_ge (pc := 41) 49 dX8_pageOfFile_41 (by decide) (kt := fun c => absurd c (by decide)) (kf := fun c41 => ev_ldc (pc := 44) kC_8_71 dX8_pageOfFile_44 (ev_goto (pc := 46) 50 dX8_pageOfFile_46 (by decide) (ev_iret (pc := 50) dX8_pageOfFile_50 rfl ?_)))))))
      exact h
    · rw [if_neg (nI_ne_m1 (by omega))] at h
      refine ev_iload (pc := 14) dX8_pageOfFile_14 rfl (ev_iload_n (pc := 16) dX8_pageOfFile_16 rfl (ev_ncmp_ge (pc := 17) 40 (i) (k) dX8_pageOfFile_17 (by decide) (rfl) (rfl) (by omega) (by omega) (kf := fun c => absurd c (by omega)) (kt := fun c17 => ev_iload_n (pc := 40) dX8_pageOfFile_40 rfl (ev_if_ge (pc := 41) 49 dX8_pageOfFile_41 (by decide) (kf := fun c => absurd (nI_pos' (by omega)) c) (kt := fun c41 => ev_iload_n (pc := 49) dX8_pageOfFile_49 rfl (ev_iret (pc := 50) dX8_pageOfFile_50 rfl ?_))))))
      exact h
  | m + 1, i, q, hi, hq, h => by
    rcases hq with rfl | ⟨j, j1, rfl⟩
    · rw [itD_m] at h
      refine ev_iload (pc := 14) dX8_pageOfFile_14 rfl (ev_iload_n (pc := 16) dX8_pageOfFile_16 rfl (ev_ncmp_ge (pc := 17) 40 (i) (k) dX8_pageOfFile_17 (by decide) (rfl) (rfl) (by omega) (by omega) (kt := fun c => absurd c (by omega)) (kf := fun c17 => ev_iload_n (pc := 20) dX8_pageOfFile_20 rfl (ev_if_lt (pc := 21) 40 dX8_pageOfFile_21 (by decide) (kf := fun c => absurd (by decide) c) (kt := fun c21 => ev_iload_n (pc := 40) dX8_pageOfFile_40 rfl (ev_if_ge (pc := 41) 49 dX8_pageOfFile_41 (by decide) (kt := fun c => absurd c (by decide)) (kf := fun c41 => ev_ldc (pc := 44) kC_8_71 dX8_pageOfFile_44 (ev_goto (pc := 46) 50 dX8_pageOfFile_46 (by decide) (ev_iret (pc := 50) dX8_pageOfFile_50 rfl ?_)))))))))
      exact h
    · have hx := (hw.1 j j1).2.2.2.1
      simp only [itr] at h
      rw [nx_n j1] at h
      refine ev_iload (pc := 14) dX8_pageOfFile_14 rfl (ev_iload_n (pc := 16) dX8_pageOfFile_16 rfl (ev_ncmp_ge (pc := 17) 40 (i) (k) dX8_pageOfFile_17 (by decide) (rfl) (rfl) (by omega) (by omega) (kt := fun c => absurd c (by omega)) (kf := fun c17 => ev_iload_n (pc := 20) dX8_pageOfFile_20 rfl (ev_if_lt (pc := 21) 40 dX8_pageOfFile_21 (by decide) (kt := fun c => absurd c (nI_pos (by omega))) (kf := fun c21 => ev_aload_n (pc := 24) dX8_pageOfFile_24 rfl (ev_getr (pc := 25) kF_8_7 dX8_pageOfFile_25 rfl rfl rfl (ev_bipush (pc := 28) (v := (120)) dX8_pageOfFile_28 bipush_c120 (ev_iload_n (pc := 30) dX8_pageOfFile_30 rfl (ev_iadd (pc := 31) dX8_pageOfFile_31 (ev_iald (pc := 32) (i := 120 + j) dX8_pageOfFile_32 rfl (nI_add 120 j) (by omega) rfl (?_)))))))))))
      rw [hr (120 + j) (by omega)]
      refine ev_istore_n (pc := 33) dX8_pageOfFile_33 rfl (ev_iinc (pc := 34) dX8_pageOfFile_34 rfl (iinc_1 _) rfl (ev_goto (pc := 37) 14 dX8_pageOfFile_37 (by decide) (?_)))
      exact lp_pof hr hw hk m (i + 1) _ (by omega) hx h
theorem m_pageOfFile (hr : rowM I D) (hw : wfD D) {n k : Nat} (hn : n < 30) (hk : k < 2 ^ 31) (h : Q (some (.int (fdD (itr (nxD D) k (D (200 + n)))))) (I, J, KR p)) : T d me_X8_pageOfFile [.ref 82, .int (nI n), .int (nI k)] L I J p Q := by
  refine am_enter [some (.ref 82), some (.int (nI n)), some (.int (nI k)), none, none] rfl rfl rfl rfl ?_
  refine ev_aload_n (pc := 0) dX8_pageOfFile_0 rfl (ev_getr (pc := 1) kF_8_7 dX8_pageOfFile_1 rfl rfl rfl (ev_sipush (pc := 4) (v := (200)) dX8_pageOfFile_4 sipush_c200 (ev_iload_n (pc := 7) dX8_pageOfFile_7 rfl (ev_iadd (pc := 8) dX8_pageOfFile_8 (ev_iald (pc := 9) (i := 200 + n) dX8_pageOfFile_9 rfl (nI_add 200 n) (by omega) rfl (?_))))))
  rw [hr (200 + n) (by omega)]
  refine ev_istore_n (pc := 10) dX8_pageOfFile_10 rfl (ev_iconst (pc := 11) (v := (0)) dX8_pageOfFile_11 iconst_c0 (ev_istore (pc := 12) dX8_pageOfFile_12 rfl (?_)))
  refine lp_pof hr hw hk k 0 _ (by omega) ?_ h
  rcases hw.2.1 n hn with e | ⟨ps, f1, f2, f3, f4, f5, f6⟩
  · exact Or.inl e
  · exact Or.inr ⟨_, (f6 0 (by omega)).1, f3⟩
theorem lp_isRow (hr : rowM I D) {n : Nat} {ps : List Nat} (hf : fileD D n ps) : ∀ (m i t : Nat) (b : Bool), i + m + 1 = ps.length → m ≤ t → Q (some (.int (bI (b && strF (nxD D) t (nI (ps.getD i 0)))))) (I, J, KR p) → E me_X8_isRow d L 13 [some (.ref 82), some (.int (nI n)), some (.int (bI b)), some (.int (nI (ps.getD i 0)))] [] I J p Q
  | 0, i, t, b, hi, ht, h => by
    obtain ⟨a1, a2, a3⟩ := hf.2.2.2.2.2 i (by omega)
    rw [if_neg (by omega)] at a3
    have e : strF (nxD D) t (nI (ps.getD i 0)) = true := by
      cases t with
      | zero => rfl
      | succ t => simp only [strF]; rw [if_pos (by rw [nx_n a1]; exact a3)]
    rw [e, Bool.and_true] at h
    have e2 : I 83 (120 + ps.getD i 0) = -1 := by rw [hr _ (by omega)]; exact a3
    cases b
    · refine ev_iload_n (pc := 13) dX8_isRow_13 rfl (ev_if_lt (pc := 14) 67 dX8_isRow_14 (by decide) (kt := fun c => absurd c (nI_pos (by omega))) (kf := fun c14 => ev_iload_n (pc := 17) dX8_isRow_17 rfl (ev_ifb_eq (pc := 18) 52 dX8_isRow_18 (by decide) (kf := fun c => absurd c (by simp)) (kt := fun c18 => ev_iconst (pc := 52) (v := (0)) dX8_isRow_52 iconst_c0 (ev_istore_n (pc := 53) dX8_isRow_53 rfl (ev_aload_n (pc := 54) dX8_isRow_54 rfl (ev_getr (pc := 55) kF_8_7 dX8_isRow_55 rfl rfl rfl (ev_bipush (pc := 58) (v := (120)) dX8_isRow_58 bipush_c120 (ev_iload_n (pc := 60) dX8_isRow_60 rfl (ev_iadd (pc := 61) dX8_isRow_61 (ev_iald (pc := 62) (i := 120 + ps.getD i 0) dX8_isRow_62 rfl (nI_add 120 _) (by omega) rfl (?_))))))))))))
      rw [e2]
      refine ev_istore_n (pc := 63) dX8_isRow_63 rfl (ev_goto (pc := 64) 13 dX8_isRow_64 (by decide) (ev_iload_n (pc := 13) dX8_isRow_13 rfl (ev_if_lt (pc := 14) 67 dX8_isRow_14 (by decide) (kf := fun c => absurd (by decide) c) (kt := fun c14 => ev_iload_n (pc := 67) dX8_isRow_67 rfl (ev_zret (pc := 68) dX8_isRow_68 rfl (bI_01 false) ?_)))))
      exact h
    · refine ev_iload_n (pc := 13) dX8_isRow_13 rfl (ev_if_lt (pc := 14) 67 dX8_isRow_14 (by decide) (kt := fun c => absurd c (nI_pos (by omega))) (kf := fun c14 => ev_iload_n (pc := 17) dX8_isRow_17 rfl (ev_ifb_eq (pc := 18) 52 dX8_isRow_18 (by decide) (kt := fun c => absurd c (by simp)) (kf := fun c18 => ev_aload_n (pc := 21) dX8_isRow_21 rfl (ev_getr (pc := 22) kF_8_7 dX8_isRow_22 rfl rfl rfl (ev_bipush (pc := 25) (v := (120)) dX8_isRow_25 bipush_c120 (ev_iload_n (pc := 27) dX8_isRow_27 rfl (ev_iadd (pc := 28) dX8_isRow_28 (ev_iald (pc := 29) (i := 120 + ps.getD i 0) dX8_isRow_29 rfl (nI_add 120 _) (by omega) rfl (?_))))))))))
      rw [e2]
      refine ev_if_lt (pc := 30) 48 dX8_isRow_30 (by decide) (kf := fun c => absurd (by decide) c) (kt := fun c30 => ev_iconst (pc := 48) (v := (1)) dX8_isRow_48 iconst_c1 (ev_goto (pc := 49) 53 dX8_isRow_49 (by decide) (ev_istore_n (pc := 53) dX8_isRow_53 rfl (ev_aload_n (pc := 54) dX8_isRow_54 rfl (ev_getr (pc := 55) kF_8_7 dX8_isRow_55 rfl rfl rfl (ev_bipush (pc := 58) (v := (120)) dX8_isRow_58 bipush_c120 (ev_iload_n (pc := 60) dX8_isRow_60 rfl (ev_iadd (pc := 61) dX8_isRow_61 (ev_iald (pc := 62) (i := 120 + ps.getD i 0) dX8_isRow_62 rfl (nI_add 120 _) (by omega) rfl (?_))))))))))
      rw [e2]
      refine ev_istore_n (pc := 63) dX8_isRow_63 rfl (ev_goto (pc := 64) 13 dX8_isRow_64 (by decide) (ev_iload_n (pc := 13) dX8_isRow_13 rfl (ev_if_lt (pc := 14) 67 dX8_isRow_14 (by decide) (kf := fun c => absurd (by decide) c) (kt := fun c14 => ev_iload_n (pc := 67) dX8_isRow_67 rfl (ev_zret (pc := 68) dX8_isRow_68 rfl (bI_01 true) ?_)))))
      exact h
  | m + 1, i, t, b, hi, ht, h => by
    obtain ⟨a1, a2, a3⟩ := hf.2.2.2.2.2 i (by omega)
    obtain ⟨b1, b2, b3⟩ := hf.2.2.2.2.2 (i + 1) (by omega)
    rw [if_pos (by omega)] at a3
    obtain ⟨t, rfl⟩ : ∃ t', t = t' + 1 := ⟨t - 1, by omega⟩
    simp only [strF] at h
    rw [nx_n a1, a3, if_neg (nI_ne_m1 (by omega)), show nI (ps.getD i 0) + 1 = nI (ps.getD i 0 + 1) from nI_1 _] at h
    have e2 : I 83 (120 + ps.getD i 0) = nI (ps.getD (i + 1) 0) := by rw [hr _ (by omega)]; exact a3
    have ih := fun b h => lp_isRow hr hf m (i + 1) t b (by omega) (by omega) h
    cases b
    · refine ev_iload_n (pc := 13) dX8_isRow_13 rfl (ev_if_lt (pc := 14) 67 dX8_isRow_14 (by decide) (kt := fun c => absurd c (nI_pos (by omega))) (kf := fun c14 => ev_iload_n (pc := 17) dX8_isRow_17 rfl (ev_ifb_eq (pc := 18) 52 dX8_isRow_18 (by decide) (kf := fun c => absurd c (by simp)) (kt := fun c18 => ev_iconst (pc := 52) (v := (0)) dX8_isRow_52 iconst_c0 (ev_istore_n (pc := 53) dX8_isRow_53 rfl (ev_aload_n (pc := 54) dX8_isRow_54 rfl (ev_getr (pc := 55) kF_8_7 dX8_isRow_55 rfl rfl rfl (ev_bipush (pc := 58) (v := (120)) dX8_isRow_58 bipush_c120 (ev_iload_n (pc := 60) dX8_isRow_60 rfl (ev_iadd (pc := 61) dX8_isRow_61 (ev_iald (pc := 62) (i := 120 + ps.getD i 0) dX8_isRow_62 rfl (nI_add 120 _) (by omega) rfl (?_))))))))))))
      rw [e2]
      refine ev_istore_n (pc := 63) dX8_isRow_63 rfl (ev_goto (pc := 64) 13 dX8_isRow_64 (by decide) (?_))
      exact ih false h
    · refine ev_iload_n (pc := 13) dX8_isRow_13 rfl (ev_if_lt (pc := 14) 67 dX8_isRow_14 (by decide) (kt := fun c => absurd c (nI_pos (by omega))) (kf := fun c14 => ev_iload_n (pc := 17) dX8_isRow_17 rfl (ev_ifb_eq (pc := 18) 52 dX8_isRow_18 (by decide) (kt := fun c => absurd c (by simp)) (kf := fun c18 => ev_aload_n (pc := 21) dX8_isRow_21 rfl (ev_getr (pc := 22) kF_8_7 dX8_isRow_22 rfl rfl rfl (ev_bipush (pc := 25) (v := (120)) dX8_isRow_25 bipush_c120 (ev_iload_n (pc := 27) dX8_isRow_27 rfl (ev_iadd (pc := 28) dX8_isRow_28 (ev_iald (pc := 29) (i := 120 + ps.getD i 0) dX8_isRow_29 rfl (nI_add 120 _) (by omega) rfl (?_))))))))))
      rw [e2]
      refine ev_if_lt (pc := 30) 48 dX8_isRow_30 (by decide) (kt := fun c => absurd c (nI_pos (by omega))) (kf := fun c30 => ev_aload_n (pc := 33) dX8_isRow_33 rfl (ev_getr (pc := 34) kF_8_7 dX8_isRow_34 rfl rfl rfl (ev_bipush (pc := 37) (v := (120)) dX8_isRow_37 bipush_c120 (ev_iload_n (pc := 39) dX8_isRow_39 rfl (ev_iadd (pc := 40) dX8_isRow_40 (ev_iald (pc := 41) (i := 120 + ps.getD i 0) dX8_isRow_41 rfl (nI_add 120 _) (by omega) rfl (?_)))))))
      rw [e2]
      by_cases q : ps.getD (i + 1) 0 = ps.getD i 0 + 1
      · rw [if_pos (by rw [q]), ← q] at h
        refine ev_iload_n (pc := 42) dX8_isRow_42 rfl (ev_iconst (pc := 43) (v := (1)) dX8_isRow_43 iconst_c1 (ev_iadd (pc := 44) dX8_isRow_44 (ev_ncmp_ne (pc := 45) 52 (ps.getD (i + 1) 0) (ps.getD i 0 + 1) dX8_isRow_45 (by decide) (rfl) (nI_1 _) (by omega) (by omega) (kt := fun c => absurd c (by omega)) (kf := fun c45 => ev_iconst (pc := 48) (v := (1)) dX8_isRow_48 iconst_c1 (ev_goto (pc := 49) 53 dX8_isRow_49 (by decide) (ev_istore_n (pc := 53) dX8_isRow_53 rfl (ev_aload_n (pc := 54) dX8_isRow_54 rfl (ev_getr (pc := 55) kF_8_7 dX8_isRow_55 rfl rfl rfl (ev_bipush (pc := 58) (v := (120)) dX8_isRow_58 bipush_c120 (ev_iload_n (pc := 60) dX8_isRow_60 rfl (ev_iadd (pc := 61) dX8_isRow_61 (ev_iald (pc := 62) (i := 120 + ps.getD i 0) dX8_isRow_62 rfl (nI_add 120 _) (by omega) rfl (?_)))))))))))))
        rw [e2]
        refine ev_istore_n (pc := 63) dX8_isRow_63 rfl (ev_goto (pc := 64) 13 dX8_isRow_64 (by decide) (?_))
        exact ih true h
      · rw [if_neg (fun e => q ((nI_eq (by omega) (by omega)).mp e)), Bool.and_false] at h
        refine ev_iload_n (pc := 42) dX8_isRow_42 rfl (ev_iconst (pc := 43) (v := (1)) dX8_isRow_43 iconst_c1 (ev_iadd (pc := 44) dX8_isRow_44 (ev_ncmp_ne (pc := 45) 52 (ps.getD (i + 1) 0) (ps.getD i 0 + 1) dX8_isRow_45 (by decide) (rfl) (nI_1 _) (by omega) (by omega) (kf := fun c => absurd c (by omega)) (kt := fun c45 => ev_iconst (pc := 52) (v := (0)) dX8_isRow_52 iconst_c0 (ev_istore_n (pc := 53) dX8_isRow_53 rfl (ev_aload_n (pc := 54) dX8_isRow_54 rfl (ev_getr (pc := 55) kF_8_7 dX8_isRow_55 rfl rfl rfl (ev_bipush (pc := 58) (v := (120)) dX8_isRow_58 bipush_c120 (ev_iload_n (pc := 60) dX8_isRow_60 rfl (ev_iadd (pc := 61) dX8_isRow_61 (ev_iald (pc := 62) (i := 120 + ps.getD i 0) dX8_isRow_62 rfl (nI_add 120 _) (by omega) rfl (?_))))))))))))
        rw [e2]
        refine ev_istore_n (pc := 63) dX8_isRow_63 rfl (ev_goto (pc := 64) 13 dX8_isRow_64 (by decide) (?_))
        exact ih false h
theorem m_isRow (hr : rowM I D) {n : Nat} {ps : List Nat} (hn : n < 30) (hf : fileD D n ps) (h : Q (some (.int (bI (strF (nxD D) 11 (D (200 + n)))))) (I, J, KR p)) : T d me_X8_isRow [.ref 82, .int (nI n)] L I J p Q := by
  refine am_enter [some (.ref 82), some (.int (nI n)), none, none] rfl rfl rfl rfl ?_
  obtain ⟨f1, f2, f3, f4, f5, f6⟩ := hf
  rw [f3] at h
  refine ev_iconst (pc := 0) (v := (1)) dX8_isRow_0 iconst_c1 (ev_istore_n (pc := 1) dX8_isRow_1 rfl (ev_aload_n (pc := 2) dX8_isRow_2 rfl (ev_getr (pc := 3) kF_8_7 dX8_isRow_3 rfl rfl rfl (ev_sipush (pc := 6) (v := (200)) dX8_isRow_6 sipush_c200 (ev_iload_n (pc := 9) dX8_isRow_9 rfl (ev_iadd (pc := 10) dX8_isRow_10 (ev_iald (pc := 11) (i := 200 + n) dX8_isRow_11 rfl (nI_add 200 n) (by omega) rfl (?_))))))))
  rw [hr (200 + n) (by omega), f3]
  refine ev_istore_n (pc := 12) dX8_isRow_12 rfl (?_)
  exact lp_isRow hr ⟨f1, f2, f3, f4, f5, f6⟩ (ps.length - 1) 0 11 true (by omega) (by omega) (by rw [Bool.true_and]; exact h)
theorem m_fileOf (hd : 3 ≤ d) (hm : Mod rn I s) (hw : wfD s.1) (a b : Int32) (k : Q (some (.int (oFile s a b))) (I, J, KR p)) : T d me_X8_fileOf [.ref 82, .int a, .int b] L I J p Q := by
  refine am_enter [some (.ref 82), some (.int a), some (.int b), none, none] rfl rfl rfl rfl ?_
  unfold oFile at k
  have h := hm.1
  refine ev_iload_n (pc := 0) dX8_fileOf_0 rfl (ev_invS (pc := 1) kS_8_76 dX8_fileOf_1 rfl (by omega) rfl ?_)
  refine m_isName (by omega) a ?_
  cases q1 : inR 0 29 a
  · rw [q1, Bool.false_and, if_neg (by decide)] at k
    refine ev_ifb_eq (pc := 4) 27 dX8_fileOf_4 (by decide) (kf := fun c => absurd c (by simp)) (kt := fun c4 => ev_ldc (pc := 27) kC_8_79 dX8_fileOf_27 (ev_iret (pc := 29) dX8_fileOf_29 rfl ?_))
    exact k
  rw [q1, Bool.true_and] at k
  obtain ⟨n, n1, n2, rfl⟩ := inR_n (by omega) (by omega) q1
  rw [nI_clamp (by omega)] at k
  have join : ∀ w, w < 22 → (w ≤ 4 ∨ 10 ≤ w) → b = nI w → Q (some (.int (if s.1 (200 + n) = -1 then -1000004 else fileV s.1 n w))) (I, J, KR p) → E me_X8_fileOf d L 30 [some (.ref 82), some (.int (nI n)), some (.int b), none, none] [] I J p Q := by
    intro w hw1 hw2 eb kk
    subst eb
    refine ev_aload_n (pc := 30) dX8_fileOf_30 rfl (ev_getr (pc := 31) kF_8_7 dX8_fileOf_31 rfl rfl rfl (ev_sipush (pc := 34) (v := (200)) dX8_fileOf_34 sipush_c200 (ev_iload_n (pc := 37) dX8_fileOf_37 rfl (ev_iadd (pc := 38) dX8_fileOf_38 (ev_iald (pc := 39) (i := 200 + n) dX8_fileOf_39 rfl (nI_add 200 n) (by omega) rfl (?_))))))
    rw [h (200 + n) (by omega)]
    by_cases cc : s.1 (200 + n) = -1
    · rw [if_pos cc] at kk
      rw [cc]
      refine ev_istore_n (pc := 40) dX8_fileOf_40 rfl (ev_iload_n (pc := 41) dX8_fileOf_41 rfl (ev_if_ge (pc := 42) 48 dX8_fileOf_42 (by decide) (kt := fun c => absurd c (by decide)) (kf := fun c42 => ev_ldc (pc := 45) kC_8_71 dX8_fileOf_45 (ev_iret (pc := 47) dX8_fileOf_47 rfl ?_))))
      exact kk
    rw [if_neg cc] at kk
    obtain ⟨ps, hf⟩ := (hw.2.1 n (by omega)).resolve_left cc
    obtain ⟨f1, f2, f3, f4, f5, f6⟩ := id hf
    have g1 := (f6 0 (by omega)).1
    rw [f3]
    refine ev_istore_n (pc := 40) dX8_fileOf_40 rfl (ev_iload_n (pc := 41) dX8_fileOf_41 rfl (ev_if_ge (pc := 42) 48 dX8_fileOf_42 (by decide) (kf := fun c => absurd (nI_pos' (by omega)) c) (kt := fun c42 => ev_aload_n (pc := 48) dX8_fileOf_48 rfl (ev_getr (pc := 49) kF_8_7 dX8_fileOf_49 rfl rfl rfl (ev_bipush (pc := 52) (v := (80)) dX8_fileOf_52 bipush_c80 (ev_iload_n (pc := 54) dX8_fileOf_54 rfl (ev_iadd (pc := 55) dX8_fileOf_55 (ev_iald (pc := 56) (i := 80 + ps.getD 0 0) dX8_fileOf_56 rfl (nI_add 80 _) (by omega) rfl (?_)))))))))
    rw [h (80 + ps.getD 0 0) (by omega), f5]
    unfold fileV lnD at kk
    rw [f3, nI_clamp (by omega), f5, nI_clamp (by omega)] at kk
    refine ev_istore (pc := 57) dX8_fileOf_57 rfl (ev_iload_n (pc := 59) dX8_fileOf_59 rfl (?_))
    by_cases w5 : 5 ≤ w
    · rw [if_neg (by omega), if_neg (by omega), if_neg (by omega), if_neg (by omega), if_neg (by omega)] at kk
      refine ev_tabOut (pc := 60) 135 dX8_fileOf_60 (Or.inr (by rw [nI_toInt (by omega)]; omega)) (by decide) ?_
      refine ev_aload_n (pc := 135) dX8_fileOf_135 rfl (ev_iload_n (pc := 136) dX8_fileOf_136 rfl (ev_iload_n (pc := 137) dX8_fileOf_137 rfl (ev_bipush (pc := 138) (v := (10)) dX8_fileOf_138 bipush_c10 (ev_isub (pc := 140) dX8_fileOf_140 (?_)))))
      rw [show nI w - 10 = nI (w - 10) from nI_less (a := w) (b := 10) (by omega)]
      refine ev_invV (pc := 141) kV_8_100 dX8_fileOf_141 rfl rfl rfl (by omega) rfl ?_
      refine m_pageOfFile h hw (by omega) (by omega) ?_
      rw [f3]
      refine ev_iret (pc := 144) dX8_fileOf_144 rfl ?_
      exact kk
    · obtain rfl | rfl | rfl | rfl | rfl : w = 0 ∨ w = 1 ∨ w = 2 ∨ w = 3 ∨ w = 4 := by omega
      · refine ev_tabIn (pc := 60) (off := 36) 96 dX8_fileOf_60 (by decide) (by decide) (by decide) (by decide) ?_
        refine ev_aload_n (pc := 96) dX8_fileOf_96 rfl (ev_getr (pc := 97) kF_8_7 dX8_fileOf_97 rfl rfl rfl (ev_bipush (pc := 100) (v := (40)) dX8_fileOf_100 bipush_c40 (ev_iload_n (pc := 102) dX8_fileOf_102 rfl (ev_iadd (pc := 103) dX8_fileOf_103 (ev_iald (pc := 104) (i := 40 + ps.getD 0 0) dX8_fileOf_104 rfl (nI_add 40 _) (by omega) rfl (?_))))))
        rw [h (40 + ps.getD 0 0) (by omega)]
        refine ev_iret (pc := 105) dX8_fileOf_105 rfl ?_
        exact kk
      · refine ev_tabIn (pc := 60) (off := 46) 106 dX8_fileOf_60 (by decide) (by decide) (by decide) (by decide) ?_
        refine ev_iload (pc := 106) dX8_fileOf_106 rfl (ev_iret (pc := 108) dX8_fileOf_108 rfl ?_)
        exact kk
      · refine ev_tabIn (pc := 60) (off := 49) 109 dX8_fileOf_60 (by decide) (by decide) (by decide) (by decide) ?_
        refine ev_iload_n (pc := 109) dX8_fileOf_109 rfl (ev_iret (pc := 110) dX8_fileOf_110 rfl ?_)
        exact kk
      · refine ev_tabIn (pc := 60) (off := 51) 111 dX8_fileOf_60 (by decide) (by decide) (by decide) (by decide) ?_
        refine ev_aload_n (pc := 111) dX8_fileOf_111 rfl (ev_iload_n (pc := 112) dX8_fileOf_112 rfl (ev_iload (pc := 113) dX8_fileOf_113 rfl (ev_iconst (pc := 115) (v := (1)) dX8_fileOf_115 iconst_c1 (ev_isub (pc := 116) dX8_fileOf_116 (?_)))))
        rw [show nI ps.length - 1 = nI (ps.length - 1) from nI_less (a := ps.length) (b := 1) (by omega)]
        refine ev_invV (pc := 117) kV_8_100 dX8_fileOf_117 rfl rfl rfl (by omega) rfl ?_
        refine m_pageOfFile h hw (by omega) (by omega) ?_
        have e := itD_row hf (ps.length - 1) 0 (by omega)
        have gl := (f6 (0 + (ps.length - 1)) (by omega)).1
        rw [f3]
        refine ev_iret (pc := 120) dX8_fileOf_120 rfl ?_
        unfold fdD
        rw [e, if_neg (nI_ne_m1 (by omega)), ← e]
        exact kk
      · refine ev_tabIn (pc := 60) (off := 61) 121 dX8_fileOf_60 (by decide) (by decide) (by decide) (by decide) ?_
        refine ev_aload_n (pc := 121) dX8_fileOf_121 rfl (ev_iload_n (pc := 122) dX8_fileOf_122 rfl (ev_invV (pc := 123) kV_8_104 dX8_fileOf_123 rfl rfl rfl (by omega) rfl ?_))
        refine m_isRow h (by omega) hf ?_
        rw [f3]
        simp only [show ¬ (4 : Nat) = 0 by omega, show ¬ (4 : Nat) = 1 by omega, show ¬ (4 : Nat) = 2 by omega, show ¬ (4 : Nat) = 3 by omega, if_false, if_true] at kk
        cases q : strF (nxD s.1) 11 (nI (ps.getD 0 0))
        · rw [q] at kk
          refine ev_ifb_eq (pc := 126) 133 dX8_fileOf_126 (by decide) (kf := fun c => absurd c (by simp)) (kt := fun c126 => ev_iconst (pc := 133) (v := (0)) dX8_fileOf_133 iconst_c0 (ev_iret (pc := 134) dX8_fileOf_134 rfl ?_))
          exact kk
        · rw [q] at kk
          refine ev_ifb_eq (pc := 126) 133 dX8_fileOf_126 (by decide) (kt := fun c => absurd c (by simp)) (kf := fun c126 => ev_iconst (pc := 129) (v := (1)) dX8_fileOf_129 iconst_c1 (ev_goto (pc := 130) 134 dX8_fileOf_130 (by decide) (ev_iret (pc := 134) dX8_fileOf_134 rfl ?_)))
          exact kk
  refine ev_ifb_eq (pc := 4) 27 dX8_fileOf_4 (by decide) (kt := fun c => absurd c (by simp)) (kf := fun c4 => ev_iload_n (pc := 7) dX8_fileOf_7 rfl (ev_iconst (pc := 8) (v := (0)) dX8_fileOf_8 iconst_c0 (ev_iconst (pc := 9) (v := (4)) dX8_fileOf_9 iconst_c4 (ev_invS (pc := 10) kS_8_52 dX8_fileOf_10 rfl (by omega) rfl ?_))))
  refine m_in 0 4 b ?_
  cases q2 : inR 0 4 b
  · rw [q2, Bool.false_or] at k
    refine ev_ifb_ne (pc := 13) 30 dX8_fileOf_13 (by decide) (kt := fun c => absurd c (by simp)) (kf := fun c13 => ev_iload_n (pc := 16) dX8_fileOf_16 rfl (ev_bipush (pc := 17) (v := (10)) dX8_fileOf_17 bipush_c10 (ev_bipush (pc := 19) (v := (21)) dX8_fileOf_19 bipush_c21 (ev_invS (pc := 21) kS_8_52 dX8_fileOf_21 rfl (by omega) rfl ?_))))
    refine m_in 10 21 b ?_
    cases q3 : inR 10 21 b
    · rw [q3, if_neg (by decide)] at k
      refine ev_ifb_ne (pc := 24) 30 dX8_fileOf_24 (by decide) (kt := fun c => absurd c (by simp)) (kf := fun c24 => ev_ldc (pc := 27) kC_8_79 dX8_fileOf_27 (ev_iret (pc := 29) dX8_fileOf_29 rfl ?_))
      exact k
    · rw [q3, if_pos rfl] at k
      obtain ⟨w, w1, w2, e⟩ := inR_n (by omega) (by omega) q3
      rw [e, nI_clamp (by omega)] at k
      refine ev_ifb_ne (pc := 24) 30 dX8_fileOf_24 (by decide) (kf := fun c => absurd c (by simp)) (kt := fun c24 => ?_)
      exact join w (by omega) (by omega) e k
  · rw [q2, Bool.true_or, if_pos rfl] at k
    obtain ⟨w, w1, w2, e⟩ := inR_n (by omega) (by omega) q2
    rw [e, nI_clamp (by omega)] at k
    refine ev_ifb_ne (pc := 13) 30 dX8_fileOf_13 (by decide) (kf := fun c => absurd c (by simp)) (kt := fun c13 => ?_)
    exact join w (by omega) (by omega) e k
end T52
