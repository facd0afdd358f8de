/-! ===== count ===== -/
section T40
variable {d L : Nat} {I : Nat → Nat → Int32} {J : Nat → Nat → Int64} {p : Nat → Nat} {Q : Option Value → am_M → Prop} {s : Sta}
theorem c_count (hd : 7 ≤ d) (hc : Cls I p s) (hw : Wst s) (a : Int32) (k : ∀ I' J', Cls I' p s → cfr I I' → Q (some (.int (oCount s a))) (I', J', KR p)) : T d me_X7_count [.ref 1, .int a] L I J p Q := by
  refine am_enter [some (.ref 1), some (.int a)] rfl rfl rfl rfl ?_
  unfold oCount at k
  have h := hc.2.1
  have ec : cntB (frP I) 40 = cntB (fD s.1) 40 := cntB_congr 40 (rp_fr h)
  refine ev_iload_n (pc := 0) dX7_count_0 rfl (?_)
  cases q1 : inR 0 12 a
  · rw [q1, if_neg (by decide)] at k
    refine ev_tabOut (pc := 1) 222 dX7_count_1 (inR_out (a := 0) (b := 12) (by decide) (by decide) q1) (by decide) ?_
    refine ev_ldc (pc := 222) kC_7_58 dX7_count_222 (ev_iret (pc := 224) dX7_count_224 rfl ?_)
    exact k _ _ hc (cfr_rf I)
  rw [q1, if_pos rfl] at k
  obtain ⟨w, n1, n2, rfl⟩ := inR_n (by omega) (by omega) q1
  rw [nI_clamp (by omega)] at k
  unfold cntV at k
  obtain rfl | rfl | rfl | rfl | rfl | rfl | rfl | rfl | rfl | rfl | rfl | rfl | rfl : w = 0 ∨ w = 1 ∨ w = 2 ∨ w = 3 ∨ w = 4 ∨ w = 5 ∨ w = 6 ∨ w = 7 ∨ w = 8 ∨ w = 9 ∨ w = 10 ∨ w = 11 ∨ w = 12 := by omega
  · refine ev_tabIn (pc := 1) (off := 67) 68 dX7_count_1 (by decide) (by decide) (by decide) (by decide) ?_
    refine ev_aload_n (pc := 68) dX7_count_68 rfl (ev_getr (pc := 69) kF_7_10 dX7_count_69 rfl rfl rfl (ev_invV (pc := 72) kV_7_202 dX7_count_72 rfl rfl rfl (by omega) rfl ?_))
    refine t_X0_freePages (by omega) ?_
    rw [ec]
    refine ev_iret (pc := 75) dX7_count_75 rfl ?_
    exact k _ _ hc (cfr_rf I)
  · refine ev_tabIn (pc := 1) (off := 75) 76 dX7_count_1 (by decide) (by decide) (by decide) (by decide) ?_
    refine ev_aload_n (pc := 76) dX7_count_76 rfl (ev_getr (pc := 77) kF_7_10 dX7_count_77 rfl rfl rfl (ev_invV (pc := 80) kV_7_219 dX7_count_80 rfl rfl rfl (by omega) rfl ?_))
    refine t_X0_files ?_
    have ef : cntB (fun j => decide (I 8 j ≠ -1)) 30 = cntB (fun n => decide (s.1 (200 + n) ≠ -1)) 30 := cntB_congr 30 fun j hj => by rw [rp_f h hj]
    rw [ef]
    refine ev_iret (pc := 83) dX7_count_83 rfl ?_
    exact k _ _ hc (cfr_rf I)
  · refine ev_tabIn (pc := 1) (off := 83) 84 dX7_count_1 (by decide) (by decide) (by decide) (by decide) ?_
    refine ev_aload_n (pc := 84) dX7_count_84 rfl (ev_getr (pc := 85) kF_7_10 dX7_count_85 rfl rfl rfl (ev_aload_n (pc := 88) dX7_count_88 rfl (ev_getr (pc := 89) kF_7_10 dX7_count_89 rfl rfl rfl (ev_invV (pc := 92) kV_7_80 dX7_count_92 rfl rfl rfl (by omega) rfl ?_))))
    refine t_X0_freeSet ?_
    refine ev_invV (pc := 95) kV_7_84 dX7_count_95 rfl rfl rfl (by omega) rfl ?_
    refine t_X0_markedPages _ ?_
    rw [mkF_eq h]
    refine ev_iret (pc := 98) dX7_count_98 rfl ?_
    exact k _ _ hc (cfr_rf I)
  · refine ev_tabIn (pc := 1) (off := 98) 99 dX7_count_1 (by decide) (by decide) (by decide) (by decide) ?_
    refine ev_aload_n (pc := 99) dX7_count_99 rfl (ev_getr (pc := 100) kF_7_19 dX7_count_100 rfl rfl rfl (ev_aload_n (pc := 103) dX7_count_103 rfl (ev_getr (pc := 104) kF_7_10 dX7_count_104 rfl rfl rfl (ev_aload_n (pc := 107) dX7_count_107 rfl (ev_getr (pc := 108) kF_7_10 dX7_count_108 rfl rfl rfl (ev_invV (pc := 111) kV_7_80 dX7_count_111 rfl rfl rfl (by omega) rfl ?_))))))
    refine t_X0_freeSet ?_
    refine ev_invV (pc := 114) kV_7_136 dX7_count_114 rfl rfl rfl (by omega) rfl ?_
    refine t_findD (by omega) h hw.1 (fs_bl h) fun I1 J1 hf hO hr => ?_
    obtain ⟨e1, e2⟩ := Cls_gfr (I1 := I1) hw hc (fun a ha => hr.1 a (by omega))
    refine ev_aload_n (pc := 117) dX7_count_117 rfl (ev_getr (pc := 118) kF_7_19 dX7_count_118 rfl rfl rfl (ev_geti (pc := 121) kF_7_152 dX7_count_121 rfl rfl (ev_iret (pc := 124) dX7_count_124 rfl ?_)))
    rw [hO.1]
    exact k _ _ e1 e2
  · refine ev_tabIn (pc := 1) (off := 124) 125 dX7_count_1 (by decide) (by decide) (by decide) (by decide) ?_
    refine ev_aload_n (pc := 125) dX7_count_125 rfl (ev_getr (pc := 126) kF_7_10 dX7_count_126 rfl rfl rfl (ev_getr (pc := 129) kF_7_95 dX7_count_129 rfl rfl rfl (ev_geti (pc := 132) kF_7_222 dX7_count_132 rfl rfl (ev_iret (pc := 135) dX7_count_135 rfl ?_))))
    rw [rp_z h]
    exact k _ _ hc (cfr_rf I)
  · refine ev_tabIn (pc := 1) (off := 135) 136 dX7_count_1 (by decide) (by decide) (by decide) (by decide) ?_
    refine ev_aload_n (pc := 136) dX7_count_136 rfl (ev_getr (pc := 137) kF_7_19 dX7_count_137 rfl rfl rfl (ev_aload_n (pc := 140) dX7_count_140 rfl (ev_getr (pc := 141) kF_7_10 dX7_count_141 rfl rfl rfl (ev_aload_n (pc := 144) dX7_count_144 rfl (ev_getr (pc := 145) kF_7_10 dX7_count_145 rfl rfl rfl (ev_invV (pc := 148) kV_7_80 dX7_count_148 rfl rfl rfl (by omega) rfl ?_))))))
    refine t_X0_freeSet ?_
    refine ev_invV (pc := 151) kV_7_136 dX7_count_151 rfl rfl rfl (by omega) rfl ?_
    refine t_findD (by omega) h hw.1 (fs_bl h) fun I1 J1 hf hO hr => ?_
    obtain ⟨e1, e2⟩ := Cls_gfr (I1 := I1) hw hc (fun a ha => hr.1 a (by omega))
    refine ev_aload_n (pc := 154) dX7_count_154 rfl (ev_getr (pc := 155) kF_7_19 dX7_count_155 rfl rfl rfl (ev_invV (pc := 158) kV_7_216 dX7_count_158 rfl rfl rfl (by omega) rfl ?_))
    refine t_sum gl_40 hO ?_
    refine ev_sipush (pc := 161) (v := (3000)) dX7_count_161 sipush_c3000 (ev_iadd (pc := 164) dX7_count_164 (ev_iret (pc := 165) dX7_count_165 rfl ?_))
    exact k _ _ e1 e2
  · refine ev_tabIn (pc := 1) (off := 165) 166 dX7_count_1 (by decide) (by decide) (by decide) (by decide) ?_
    refine ev_aload_n (pc := 166) dX7_count_166 rfl (ev_getr (pc := 167) kF_7_10 dX7_count_167 rfl rfl rfl (ev_geti (pc := 170) kF_7_223 dX7_count_170 rfl rfl (ev_iret (pc := 173) dX7_count_173 rfl ?_)))
    rw [(rp_w h).1]
    exact k _ _ hc (cfr_rf I)
  · refine ev_tabIn (pc := 1) (off := 173) 174 dX7_count_1 (by decide) (by decide) (by decide) (by decide) ?_
    refine ev_aload_n (pc := 174) dX7_count_174 rfl (ev_getr (pc := 175) kF_7_10 dX7_count_175 rfl rfl rfl (ev_geti (pc := 178) kF_7_226 dX7_count_178 rfl rfl (ev_iret (pc := 181) dX7_count_181 rfl ?_)))
    rw [(rp_w h).2.1]
    exact k _ _ hc (cfr_rf I)
  · refine ev_tabIn (pc := 1) (off := 181) 182 dX7_count_1 (by decide) (by decide) (by decide) (by decide) ?_
    refine ev_aload_n (pc := 182) dX7_count_182 rfl (ev_getr (pc := 183) kF_7_10 dX7_count_183 rfl rfl rfl (ev_geti (pc := 186) kF_7_229 dX7_count_186 rfl rfl (ev_iret (pc := 189) dX7_count_189 rfl ?_)))
    rw [(rp_w h).2.2]
    exact k _ _ hc (cfr_rf I)
  · refine ev_tabIn (pc := 1) (off := 189) 190 dX7_count_1 (by decide) (by decide) (by decide) (by decide) ?_
    refine ev_aload_n (pc := 190) dX7_count_190 rfl (ev_getr (pc := 191) kF_7_10 dX7_count_191 rfl rfl rfl (ev_invV (pc := 194) kV_7_232 dX7_count_194 rfl rfl rfl (by omega) rfl ?_))
    refine t_X0_freeRuns (by omega) ?_
    rw [frR_eq (rp_fr h)]
    refine ev_iret (pc := 197) dX7_count_197 rfl ?_
    exact k _ _ hc (cfr_rf I)
  · refine ev_tabIn (pc := 1) (off := 197) 198 dX7_count_1 (by decide) (by decide) (by decide) (by decide) ?_
    refine ev_aload_n (pc := 198) dX7_count_198 rfl (ev_getr (pc := 199) kF_7_10 dX7_count_199 rfl rfl rfl (ev_invV (pc := 202) kV_7_235 dX7_count_202 rfl rfl rfl (by omega) rfl ?_))
    refine t_X0_longestRun (by omega) ?_
    rw [mxP_congr 40 (rp_fr h)]
    refine ev_iret (pc := 205) dX7_count_205 rfl ?_
    exact k _ _ hc (cfr_rf I)
  · refine ev_tabIn (pc := 1) (off := 205) 206 dX7_count_1 (by decide) (by decide) (by decide) (by decide) ?_
    refine ev_aload_n (pc := 206) dX7_count_206 rfl (ev_getr (pc := 207) kF_7_26 dX7_count_207 rfl rfl rfl (ev_geti (pc := 210) kF_7_238 dX7_count_210 rfl rfl (ev_iret (pc := 213) dX7_count_213 rfl ?_)))
    rw [hc.2.2.1]
    exact k _ _ hc (cfr_rf I)
  · refine ev_tabIn (pc := 1) (off := 213) 214 dX7_count_1 (by decide) (by decide) (by decide) (by decide) ?_
    refine ev_aload_n (pc := 214) dX7_count_214 rfl (ev_getr (pc := 215) kF_7_33 dX7_count_215 rfl rfl rfl (ev_geti (pc := 218) kF_7_239 dX7_count_218 rfl rfl (ev_iret (pc := 221) dX7_count_221 rfl ?_)))
    rw [hc.2.2.2.2.1]
    exact k _ _ hc (cfr_rf I)
end T40
