/-! BEATS -/
theorem zpc_tt {α : Type} {o : Option α} : zpc o (fun _ => True) := fun _ _ => trivial
theorem pb_fX12_singles_28 {σ : zSt} {s0 : Int32} (qs0 : zr 7 10 s0) : zpc (fX12_singles_28 σ s0) (fun r => zr (7) (10) r.2) := by
  unfold fX12_singles_28
  exact zpc_some qs0
theorem pb_fX12_singles_316 {σ : zSt} : zpc (fX12_singles_316 σ) (fun r => zr (4) (4) r.2) := by
  unfold fX12_singles_316
  exact zpc_some (zr_c (x := 4) (lo := 4) (hi := 4) (by decide))
theorem pb_fX12_singles_297 {σ : zSt} {s0 : Int32} {s1 : Int32} : zpc (fX12_singles_297 σ s0 s1) (fun r => zr (4) (4) r.2) := by
  unfold fX12_singles_297
  exact zpc_bu zpc_tt (fun σ7 _ => zpc_bu zpc_tt (fun σ8 _ => zpc_ck (zpc_bu zpc_tt (fun σ9 _ => pb_fX12_singles_316))))
theorem pb_fX12_singles_292 {σ : zSt} {s0 : Int32} : zpc (fX12_singles_292 σ s0) (fun r => zr (4) (4) r.2) := by
  unfold fX12_singles_292
  exact pb_fX12_singles_297
theorem pb_fX12_singles_273 {σ : zSt} {x1 : Int32} {s0 : Int32} {s1 : Int32} : zpc (fX12_singles_273 σ x1 s0 s1) (fun r => zr (4) (4) r.2) := by
  unfold fX12_singles_273
  exact zpc_bu zpc_tt (fun σ10 _ => zpc_if (fun _ => pb_fX12_singles_292) (fun _ => zpc_bi zpc_tt (fun σ11 v12 _ => zpc_if (fun _ => pb_fX12_singles_292) (fun _ => pb_fX12_singles_297))))
theorem pb_fX12_singles_272 {σ : zSt} {x1 : Int32} {s0 : Int32} : zpc (fX12_singles_272 σ x1 s0) (fun r => zr (4) (4) r.2) := by
  unfold fX12_singles_272
  exact pb_fX12_singles_273
theorem pb_fX12_singles_149 {σ : zSt} {s0 : Int32} (qs0 : zr 4 11 s0) : zpc (fX12_singles_149 σ s0) (fun r => zr (4) (11) r.2) := by
  unfold fX12_singles_149
  exact zpc_some qs0
theorem pb_fX12_singles_134 {σ : zSt} {x1 : Int32} {s0 : Int32} {s1 : Int32} : zpc (fX12_singles_134 σ x1 s0 s1) (fun r => zr (4) (11) r.2) := by
  unfold fX12_singles_134
  exact zpc_bu zpc_tt (fun σ1 _ => zpc_if (fun _ => pb_fX12_singles_149 (zr_w (zr_c (x := 11) (lo := 11) (hi := 11) (by decide)) (by decide))) (fun _ => pb_fX12_singles_149 (zr_w (zr_c (x := 4) (lo := 4) (hi := 4) (by decide)) (by decide))))
theorem pb_fX12_singles_119 {σ : zSt} {x1 : Int32} {x2 : Int32} {s0 : Int32} {s1 : Int32} : zpc (fX12_singles_119 σ x1 x2 s0 s1) (fun r => zr (4) (11) r.2) := by
  unfold fX12_singles_119
  exact zpc_bu zpc_tt (fun σ2 _ => zpc_if (fun _ => pb_fX12_singles_134) (fun _ => pb_fX12_singles_134))
theorem pb_fX12_singles_111 {σ : zSt} {x1 : Int32} {x2 : Int32} {s0 : Int32} {s1 : Int32} {s2 : Int32} : zpc (fX12_singles_111 σ x1 x2 s0 s1 s2) (fun r => zr (4) (11) r.2) := by
  unfold fX12_singles_111
  exact zpc_if (fun _ => pb_fX12_singles_119) (fun _ => pb_fX12_singles_119)
theorem pb_fX12_singles_92 {σ : zSt} {x1 : Int32} {x2 : Int32} {x3 : Int32} {s0 : Int32} {s1 : Int32} : zpc (fX12_singles_92 σ x1 x2 x3 s0 s1) (fun r => zr (4) (11) r.2) := by
  unfold fX12_singles_92
  exact zpc_bu zpc_tt (fun σ3 _ => zpc_if (fun _ => pb_fX12_singles_111) (fun _ => pb_fX12_singles_111))
theorem pb_fX12_singles_84 {σ : zSt} {x1 : Int32} {x2 : Int32} {x3 : Int32} {s0 : Int32} {s1 : Int32} {s2 : Int32} : zpc (fX12_singles_84 σ x1 x2 x3 s0 s1 s2) (fun r => zr (4) (11) r.2) := by
  unfold fX12_singles_84
  exact zpc_if (fun _ => pb_fX12_singles_92) (fun _ => pb_fX12_singles_92)
theorem pb_fX12_singles_50 {σ : zSt} {x1 : Int32} {x2 : Int32} {s0 : Int32} {s1 : Int32} : zpc (fX12_singles_50 σ x1 x2 s0 s1) (fun r => zr (4) (11) r.2) := by
  unfold fX12_singles_50
  exact zpc_bv (fun v4 _ => zpc_bu zpc_tt (fun σ5 _ => zpc_bu zpc_tt (fun σ6 _ => zpc_if (fun _ => pb_fX12_singles_84) (fun _ => pb_fX12_singles_84))))
theorem pb_fX12_singles {σ : zSt} {x1 : Int32} {x2 : Int32} : zpc (fX12_singles σ x1 x2) (fun r => zr (4) (11) r.2) := by
  unfold fX12_singles
  exact zpc_if (fun _ => zpc_bi zpc_tt (fun σ28 v29 _ => zpc_bu zpc_tt (fun σ30 _ => zpc_if (fun _ => zpc_mono (pb_fX12_singles_28 (zr_w (zr_c (x := 10) (lo := 10) (hi := 10) (by decide)) (by decide))) (fun _ h => zr_w h (by decide))) (fun _ => zpc_mono (pb_fX12_singles_28 (zr_w (zr_c (x := 7) (lo := 7) (hi := 7) (by decide)) (by decide))) (fun _ h => zr_w h (by decide)))))) (fun _ => zpc_if (fun _ => zpc_if (fun _ => zpc_if (fun _ => zpc_bu zpc_tt (fun σ19 _ => zpc_mono (pb_fX12_singles_316) (fun _ h => zr_w h (by decide)))) (fun _ => zpc_if (fun _ => zpc_ck (zpc_ck (zpc_bv (fun σ15 _ => zpc_bu zpc_tt (fun σ16 _ => zpc_bu zpc_tt (fun σ17 _ => zpc_ck (zpc_bu zpc_tt (fun σ18 _ => zpc_mono (pb_fX12_singles_316) (fun _ h => zr_w h (by decide)))))))))) (fun _ => zpc_if (fun _ => zpc_bi zpc_tt (fun σ13 v14 _ => zpc_if (fun _ => zpc_mono (pb_fX12_singles_273) (fun _ h => zr_w h (by decide))) (fun _ => zpc_mono (pb_fX12_singles_272) (fun _ h => zr_w h (by decide))))) (fun _ => zpc_mono (pb_fX12_singles_272) (fun _ h => zr_w h (by decide)))))) (fun _ => zpc_ck (zpc_bi zpc_tt (fun σ20 v21 _ => zpc_ck (zpc_bv (fun σ22 _ => zpc_ck (zpc_bu zpc_tt (fun σ23 _ => zpc_bu zpc_tt (fun σ24 _ => zpc_bu zpc_tt (fun σ25 _ => zpc_mono (pb_fX12_singles_316) (fun _ h => zr_w h (by decide)))))))))))) (fun _ => zpc_bi zpc_tt (fun σ26 v27 _ => zpc_if (fun _ => pb_fX12_singles_50) (fun _ => pb_fX12_singles_50))))
theorem pb_fX12_plain_64 {σ : zSt} {s0 : Int32} (qs0 : zr 4 16 s0) : zpc (fX12_plain_64 σ s0) (fun r => zr (4) (16) r.2) := by
  unfold fX12_plain_64
  exact zpc_some qs0
theorem pb_fX12_zero_154 {σ : zSt} {s0 : Int32} (qs0 : zr 7 13 s0) : zpc (fX12_zero_154 σ s0) (fun r => zr (7) (13) r.2) := by
  unfold fX12_zero_154
  exact zpc_some qs0
theorem pb_fX12_zero_122 {σ : zSt} {x1 : Int32} {x5 : Int32} : zpc (fX12_zero_122 σ x1 x5) (fun r => zr (7) (13) r.2) := by
  unfold fX12_zero_122
  exact zpc_if (fun _ => zpc_if (fun _ => pb_fX12_zero_154 (zr_w (zr_c (x := 8) (lo := 8) (hi := 8) (by decide)) (by decide))) (fun _ => pb_fX12_zero_154 (zr_w (zr_c (x := 13) (lo := 13) (hi := 13) (by decide)) (by decide)))) (fun _ => zpc_if (fun _ => pb_fX12_zero_154 (zr_w (zr_c (x := 7) (lo := 7) (hi := 7) (by decide)) (by decide))) (fun _ => pb_fX12_zero_154 (zr_w (zr_c (x := 12) (lo := 12) (hi := 12) (by decide)) (by decide))))
theorem pb_fX12_zero_109 {σ : zSt} {x1 : Int32} {x4 : Int32} {s0 : Int32} : zpc (fX12_zero_109 σ x1 x4 s0) (fun r => zr (7) (13) r.2) := by
  unfold fX12_zero_109
  exact zpc_if (fun _ => pb_fX12_zero_122) (fun _ => zpc_bu zpc_tt (fun σ1 _ => pb_fX12_zero_122))
theorem pb_fX12_zero_104 {σ : zSt} {x1 : Int32} {x4 : Int32} : zpc (fX12_zero_104 σ x1 x4) (fun r => zr (7) (13) r.2) := by
  unfold fX12_zero_104
  exact pb_fX12_zero_109
theorem pb_fX12_zero_67 {σ : zSt} {x1 : Int32} {x4 : Int32} : zpc (fX12_zero_67 σ x1 x4) (fun r => zr (7) (13) r.2) := by
  unfold fX12_zero_67
  exact zpc_if (fun _ => zpc_ck (zpc_if (fun _ => pb_fX12_zero_109) (fun _ => pb_fX12_zero_109))) (fun _ => zpc_if (fun _ => pb_fX12_zero_104) (fun _ => zpc_bi zpc_tt (fun σ2 v3 _ => zpc_if (fun _ => pb_fX12_zero_109) (fun _ => pb_fX12_zero_104))))
theorem pb_fX12_zero_266 {σ : zSt} {x6 : Int32} {s0 : Int32} {s1 : Int32} : zpc (fX12_zero_266 σ x6 s0 s1) (fun r => zr (11) (11) r.2) := by
  unfold fX12_zero_266
  exact zpc_bu zpc_tt (fun σ4 _ => zpc_bu zpc_tt (fun σ5 _ => zpc_bu zpc_tt (fun σ6 _ => zpc_some (zr_c (x := 11) (lo := 11) (hi := 11) (by decide)))))
theorem pb_fX12_zero_249 {σ : zSt} {x6 : Int32} {s0 : Int32} {s1 : Int32} : zpc (fX12_zero_249 σ x6 s0 s1) (fun r => zr (11) (11) r.2) := by
  unfold fX12_zero_249
  exact zpc_bu zpc_tt (fun σ7 _ => zpc_if (fun _ => pb_fX12_zero_266) (fun _ => pb_fX12_zero_266))
theorem pb_fX12_moves_214 {σ : zSt} {s0 : Int32} (qs0 : zr 13 16 s0) : zpc (fX12_moves_214 σ s0) (fun r => zr (13) (16) r.2) := by
  unfold fX12_moves_214
  exact zpc_some qs0
theorem pb_fX12_moves_201 {σ : zSt} {x1 : Int32} {s0 : Int32} {s1 : Int32} : zpc (fX12_moves_201 σ x1 s0 s1) (fun r => zr (13) (16) r.2) := by
  unfold fX12_moves_201
  exact zpc_ck (zpc_bv (fun σ9 _ => zpc_if (fun _ => pb_fX12_moves_214 (zr_w (zr_c (x := 16) (lo := 16) (hi := 16) (by decide)) (by decide))) (fun _ => pb_fX12_moves_214 (zr_w (zr_c (x := 13) (lo := 13) (hi := 13) (by decide)) (by decide)))))
theorem pb_fX12_moves_195 {σ : zSt} {x1 : Int32} {x3 : Int32} {s0 : Int32} : zpc (fX12_moves_195 σ x1 x3 s0) (fun r => zr (13) (16) r.2) := by
  unfold fX12_moves_195
  exact pb_fX12_moves_201
theorem pb_fX12_moves_160 {σ : zSt} {x1 : Int32} {x2 : Int32} {x3 : Int32} : zpc (fX12_moves_160 σ x1 x2 x3) (fun r => zr (13) (16) r.2) := by
  unfold fX12_moves_160
  exact zpc_if (fun _ => zpc_if (fun _ => zpc_ck (pb_fX12_moves_201)) (fun _ => pb_fX12_moves_195)) (fun _ => pb_fX12_moves_195)
theorem pb_fX12_moves_114 {σ : zSt} {x1 : Int32} {x2 : Int32} {x3 : Int32} : zpc (fX12_moves_114 σ x1 x2 x3) (fun r => zr (13) (16) r.2) := by
  unfold fX12_moves_114
  exact zpc_if (fun _ => zpc_bi zpc_tt (fun σ14 v15 _ => zpc_bu zpc_tt (fun σ16 _ => pb_fX12_moves_160))) (fun _ => zpc_if (fun _ => zpc_ck (zpc_bu zpc_tt (fun σ10 _ => pb_fX12_moves_160))) (fun _ => zpc_bi zpc_tt (fun σ11 v12 _ => zpc_ck (zpc_bv (fun σ13 _ => pb_fX12_moves_160)))))
theorem pb_fX12_moves_85 {σ : zSt} : zpc (fX12_moves_85 σ) (fun r => zr (7) (7) r.2) := by
  unfold fX12_moves_85
  exact zpc_some (zr_c (x := 7) (lo := 7) (hi := 7) (by decide))
theorem pb_fX12_moves_15 {σ : zSt} {x2 : Int32} {s0 : Int32} : zpc (fX12_moves_15 σ x2 s0) (fun r => zr (7) (7) r.2) := by
  unfold fX12_moves_15
  exact zpc_bi zpc_tt (fun σ1 v2 _ => zpc_if (fun _ => zpc_ck (zpc_bu zpc_tt (fun σ3 _ => zpc_ck (zpc_ck (zpc_bv (fun σ4 _ => pb_fX12_moves_85)))))) (fun _ => zpc_bi zpc_tt (fun σ5 v6 _ => zpc_ck (zpc_bv (fun σ7 _ => zpc_ck (zpc_bv (fun σ8 _ => pb_fX12_moves_85)))))))
theorem pb_fX12_moves {σ : zSt} {x1 : Int32} {x2 : Int32} : zpc (fX12_moves σ x1 x2) (fun r => zr (7) (16) r.2) := by
  unfold fX12_moves
  exact zpc_if (fun _ => zpc_bi zpc_tt (fun σ17 v18 _ => zpc_if (fun _ => zpc_if (fun _ => zpc_mono (pb_fX12_moves_114) (fun _ h => zr_w h (by decide))) (fun _ => zpc_bi zpc_tt (fun σ19 v20 _ => zpc_bu zpc_tt (fun σ21 _ => zpc_mono (pb_fX12_moves_160) (fun _ h => zr_w h (by decide)))))) (fun _ => zpc_mono (pb_fX12_moves_114) (fun _ h => zr_w h (by decide))))) (fun _ => zpc_if (fun _ => zpc_mono (pb_fX12_moves_15) (fun _ h => zr_w h (by decide))) (fun _ => zpc_mono (pb_fX12_moves_15) (fun _ h => zr_w h (by decide))))
theorem pb_fX12_zero_306 {σ : zSt} {s0 : Int32} {s1 : Int32} : zpc (fX12_zero_306 σ s0 s1) (fun r => zr (7) (16) r.2) := by
  unfold fX12_zero_306
  exact zpc_bi (pb_fX12_moves) (fun σ8 v9 hv9 => zpc_some hv9)
theorem pb_fX12_zero_328 {σ : zSt} {s0 : Int32} {s1 : Int32} {s2 : Int32} : zpc (fX12_zero_328 σ s0 s1 s2) (fun r => zr (6) (6) r.2) := by
  unfold fX12_zero_328
  exact zpc_bu zpc_tt (fun σ10 _ => zpc_some (zr_c (x := 6) (lo := 6) (hi := 6) (by decide)))
theorem pb_fX12_zero_178 {σ : zSt} {x1 : Int32} {x2 : Int32} {x3 : Int32} : zpc (fX12_zero_178 σ x1 x2 x3) (fun r => zr (6) (16) r.2) := by
  unfold fX12_zero_178
  exact zpc_if (fun _ => zpc_bi zpc_tt (fun σ13 v14 _ => zpc_bi zpc_tt (fun σ15 v16 _ => zpc_ck (zpc_bv (fun σ17 _ => zpc_bv (fun v18 _ => zpc_bu zpc_tt (fun σ19 _ => zpc_if (fun _ => zpc_mono (pb_fX12_zero_249) (fun _ h => zr_w h (by decide))) (fun _ => zpc_mono (pb_fX12_zero_249) (fun _ h => zr_w h (by decide)))))))))) (fun _ => zpc_if (fun _ => zpc_ck (zpc_if (fun _ => zpc_mono (pb_fX12_zero_306) (fun _ h => zr_w h (by decide))) (fun _ => zpc_mono (pb_fX12_zero_306) (fun _ h => zr_w h (by decide))))) (fun _ => zpc_bi zpc_tt (fun σ11 v12 _ => zpc_ck (zpc_if (fun _ => zpc_mono (pb_fX12_zero_328) (fun _ h => zr_w h (by decide))) (fun _ => zpc_mono (pb_fX12_zero_328) (fun _ h => zr_w h (by decide)))))))
theorem pb_fX12_zero {σ : zSt} {x1 : Int32} {x2 : Int32} : zpc (fX12_zero σ x1 x2) (fun r => zr (4) (16) r.2) := by
  unfold fX12_zero
  exact zpc_bv (fun v20 _ => zpc_if (fun _ => zpc_if (fun _ => zpc_some (zr_w (zr_c (x := 4) (lo := 4) (hi := 4) (by decide)) (by decide))) (fun _ => zpc_if (fun _ => zpc_bu zpc_tt (fun σ29 _ => zpc_bu zpc_tt (fun σ30 _ => zpc_some (zr_w (zr_c (x := 4) (lo := 4) (hi := 4) (by decide)) (by decide))))) (fun _ => zpc_bi zpc_tt (fun σ24 v25 _ => zpc_bi zpc_tt (fun σ26 v27 _ => zpc_if (fun _ => zpc_ck (zpc_ck (zpc_bv (fun σ28 _ => zpc_mono (pb_fX12_zero_67) (fun _ h => zr_w h (by decide)))))) (fun _ => zpc_mono (pb_fX12_zero_67) (fun _ h => zr_w h (by decide)))))))) (fun _ => zpc_if (fun _ => zpc_ck (zpc_if (fun _ => zpc_bi zpc_tt (fun σ21 v22 _ => zpc_bu zpc_tt (fun σ23 _ => zpc_some (zr_w (zr_c (x := 10) (lo := 10) (hi := 10) (by decide)) (by decide))))) (fun _ => zpc_mono (pb_fX12_zero_178) (fun _ h => zr_w h (by decide))))) (fun _ => zpc_mono (pb_fX12_zero_178) (fun _ h => zr_w h (by decide)))))
theorem pb_fX12_plain_116 {σ : zSt} {s0 : Int32} (qs0 : zr 4 7 s0) : zpc (fX12_plain_116 σ s0) (fun r => zr (4) (7) r.2) := by
  unfold fX12_plain_116
  exact zpc_some qs0
theorem pb_fX12_plain_115 {σ : zSt} : zpc (fX12_plain_115 σ) (fun r => zr (4) (7) r.2) := by
  unfold fX12_plain_115
  exact pb_fX12_plain_116 (zr_w (zr_c (x := 4) (lo := 4) (hi := 4) (by decide)) (by decide))
theorem pb_fX12_plain_110 {σ : zSt} : zpc (fX12_plain_110 σ) (fun r => zr (4) (7) r.2) := by
  unfold fX12_plain_110
  exact pb_fX12_plain_116 (zr_w (zr_c (x := 7) (lo := 7) (hi := 7) (by decide)) (by decide))
theorem pb_fX12_plain_92 {σ : zSt} {x1 : Int32} {x2 : Int32} {x3 : Int32} : zpc (fX12_plain_92 σ x1 x2 x3) (fun r => zr (4) (7) r.2) := by
  unfold fX12_plain_92
  exact zpc_if (fun _ => pb_fX12_plain_115) (fun _ => zpc_if (fun _ => pb_fX12_plain_110) (fun _ => zpc_if (fun _ => pb_fX12_plain_110) (fun _ => pb_fX12_plain_115)))
theorem pb_fX12_plain_139 {σ : zSt} {s0 : Int32} (qs0 : zr 4 7 s0) : zpc (fX12_plain_139 σ s0) (fun r => zr (4) (7) r.2) := by
  unfold fX12_plain_139
  exact zpc_some qs0
theorem pb_fX12_more3_119 {σ : zSt} {s0 : Int32} : zpc (fX12_more3_119 σ s0) (fun r => zr (11) (11) r.2) := by
  unfold fX12_more3_119
  exact zpc_bu zpc_tt (fun σ1 _ => zpc_some (zr_c (x := 11) (lo := 11) (hi := 11) (by decide)))
theorem pb_fX12_more_133 {σ : zSt} {x5 : Int32} {x6 : Int32} : zpc (fX12_more_133 σ x5 x6) (fun r => zr (12) (12) r.2) := by
  unfold fX12_more_133
  exact zpc_bu zpc_tt (fun σ8 _ => zpc_bi zpc_tt (fun σ9 v10 _ => zpc_bu zpc_tt (fun σ11 _ => zpc_bu zpc_tt (fun σ12 _ => zpc_bu zpc_tt (fun σ13 _ => zpc_ck (zpc_bv (fun σ14 _ => zpc_some (zr_c (x := 12) (lo := 12) (hi := 12) (by decide)))))))))
theorem pb_fX12_more_195 {σ : zSt} {s0 : Int32} {s1 : Int32} : zpc (fX12_more_195 σ s0 s1) (fun r => zr (12) (12) r.2) := by
  unfold fX12_more_195
  exact zpc_bu zpc_tt (fun σ4 _ => zpc_bi zpc_tt (fun σ5 v6 _ => zpc_ck (zpc_bv (fun σ7 _ => zpc_some (zr_c (x := 12) (lo := 12) (hi := 12) (by decide))))))
theorem pb_fX12_more_234 {σ : zSt} {s0 : Int32} {s1 : Int32} : zpc (fX12_more_234 σ s0 s1) (fun r => zr (15) (15) r.2) := by
  unfold fX12_more_234
  exact zpc_bu zpc_tt (fun σ3 _ => zpc_some (zr_c (x := 15) (lo := 15) (hi := 15) (by decide)))
theorem pb_fX12_more_281 {σ : zSt} {x7 : Int32} : zpc (fX12_more_281 σ x7) (fun r => zr (20) (20) r.2) := by
  unfold fX12_more_281
  exact zpc_ck (zpc_bv (fun σ2 _ => zpc_some (zr_c (x := 20) (lo := 20) (hi := 20) (by decide))))
theorem pb_fX12_more_387 {σ : zSt} {s0 : Int32} {s1 : Int32} : zpc (fX12_more_387 σ s0 s1) (fun r => zr (8) (8) r.2) := by
  unfold fX12_more_387
  exact zpc_ck (zpc_bv (fun σ1 _ => zpc_some (zr_c (x := 8) (lo := 8) (hi := 8) (by decide))))
theorem pb_fX12_specials_244 {σ : zSt} {s0 : Int32} (qs0 : zr 9 18 s0) : zpc (fX12_specials_244 σ s0) (fun r => zr (9) (18) r.2) := by
  unfold fX12_specials_244
  exact zpc_some qs0
theorem pb_fX12_specials_220 {σ : zSt} {x1 : Int32} : zpc (fX12_specials_220 σ x1) (fun r => zr (9) (18) r.2) := by
  unfold fX12_specials_220
  exact zpc_bu zpc_tt (fun σ2 _ => zpc_bu zpc_tt (fun σ3 _ => zpc_if (fun _ => pb_fX12_specials_244 (zr_w (zr_c (x := 18) (lo := 18) (hi := 18) (by decide)) (by decide))) (fun _ => pb_fX12_specials_244 (zr_w (zr_c (x := 9) (lo := 9) (hi := 9) (by decide)) (by decide)))))
theorem pb_fX12_specials_194 {σ : zSt} {x1 : Int32} {s0 : Int32} {s1 : Int32} {s2 : Int32} : zpc (fX12_specials_194 σ x1 s0 s1 s2) (fun r => zr (9) (18) r.2) := by
  unfold fX12_specials_194
  exact zpc_ck (zpc_bv (fun σ7 _ => zpc_ck (zpc_bu zpc_tt (fun σ8 _ => zpc_ck (zpc_bi zpc_tt (fun σ9 v10 _ => zpc_bu zpc_tt (fun σ11 _ => pb_fX12_specials_220)))))))
theorem pb_fX12_specials_161 {σ : zSt} {x1 : Int32} {x3 : Int32} {s0 : Int32} {s1 : Int32} : zpc (fX12_specials_161 σ x1 x3 s0 s1) (fun r => zr (9) (18) r.2) := by
  unfold fX12_specials_161
  exact zpc_bu zpc_tt (fun σ12 _ => zpc_ck (zpc_if (fun _ => pb_fX12_specials_194) (fun _ => pb_fX12_specials_194)))
theorem pb_fX12_specials_94 {σ : zSt} {x1 : Int32} {s0 : Int32} {s1 : Int32} : zpc (fX12_specials_94 σ x1 s0 s1) (fun r => zr (9) (18) r.2) := by
  unfold fX12_specials_94
  exact zpc_bu zpc_tt (fun σ4 _ => pb_fX12_specials_220)
theorem pb_fX12_specials_64 {σ : zSt} {x1 : Int32} {s0 : Int32} {s2 : Int32} : zpc (fX12_specials_64 σ x1 s0 s2) (fun r => zr (9) (18) r.2) := by
  unfold fX12_specials_64
  exact zpc_ck (zpc_ck (zpc_bv (fun σ5 _ => zpc_ck (zpc_bu zpc_tt (fun σ6 _ => zpc_ck (zpc_if (fun _ => pb_fX12_specials_94) (fun _ => pb_fX12_specials_94)))))))
theorem pb_fX12_specials_28 {σ : zSt} {s0 : Int32} : zpc (fX12_specials_28 σ s0) (fun r => zr (9) (9) r.2) := by
  unfold fX12_specials_28
  exact zpc_ck (zpc_ck (zpc_bv (fun σ1 _ => zpc_some (zr_c (x := 9) (lo := 9) (hi := 9) (by decide)))))
theorem pb_fX12_specials {σ : zSt} {x1 : Int32} : zpc (fX12_specials σ x1) (fun r => zr (8) (18) r.2) := by
  unfold fX12_specials
  exact zpc_if (fun _ => zpc_if (fun _ => zpc_if (fun _ => zpc_bi zpc_tt (fun σ13 v14 _ => zpc_ck (zpc_bv (fun σ15 _ => zpc_bi zpc_tt (fun σ16 v17 _ => zpc_ck (zpc_bv (fun v18 _ => zpc_if (fun _ => zpc_mono (pb_fX12_specials_161) (fun _ h => zr_w h (by decide))) (fun _ => zpc_mono (pb_fX12_specials_161) (fun _ h => zr_w h (by decide)))))))))) (fun _ => zpc_if (fun _ => zpc_mono (pb_fX12_specials_64) (fun _ h => zr_w h (by decide))) (fun _ => zpc_mono (pb_fX12_specials_64) (fun _ h => zr_w h (by decide))))) (fun _ => zpc_if (fun _ => zpc_mono (pb_fX12_specials_28) (fun _ h => zr_w h (by decide))) (fun _ => zpc_mono (pb_fX12_specials_28) (fun _ h => zr_w h (by decide))))) (fun _ => zpc_some (zr_w (zr_c (x := 8) (lo := 8) (hi := 8) (by decide)) (by decide)))
theorem pb_fX12_more_42 {σ : zSt} {x2 : Int32} {x3 : Int32} {x4 : Int32} : zpc (fX12_more_42 σ x2 x3 x4) (fun r => zr (8) (20) r.2) := by
  unfold fX12_more_42
  exact zpc_if (fun _ => zpc_if (fun _ => zpc_bi zpc_tt (fun σ15 v16 _ => zpc_bv (fun v17 _ => zpc_ck (zpc_bi zpc_tt (fun σ18 v19 _ => zpc_if (fun _ => zpc_mono (pb_fX12_more_133) (fun _ h => zr_w h (by decide))) (fun _ => zpc_bu zpc_tt (fun σ20 _ => zpc_mono (pb_fX12_more_133) (fun _ h => zr_w h (by decide))))))))) (fun _ => zpc_if (fun _ => zpc_ck (zpc_if (fun _ => zpc_mono (pb_fX12_more_195) (fun _ h => zr_w h (by decide))) (fun _ => zpc_bi zpc_tt (fun σ21 v22 _ => zpc_mono (pb_fX12_more_195) (fun _ h => zr_w h (by decide)))))) (fun _ => zpc_if (fun _ => zpc_ck (zpc_if (fun _ => zpc_mono (pb_fX12_more_234) (fun _ h => zr_w h (by decide))) (fun _ => zpc_mono (pb_fX12_more_234) (fun _ h => zr_w h (by decide))))) (fun _ => zpc_if (fun _ => zpc_bi zpc_tt (fun σ23 v24 _ => zpc_ck (zpc_if (fun _ => zpc_bi zpc_tt (fun σ28 v29 _ => zpc_bu zpc_tt (fun σ30 _ => zpc_mono (pb_fX12_more_281) (fun _ h => zr_w h (by decide))))) (fun _ => zpc_bi zpc_tt (fun σ25 v26 _ => zpc_bu zpc_tt (fun σ27 _ => zpc_mono (pb_fX12_more_281) (fun _ h => zr_w h (by decide)))))))) (fun _ => zpc_if (fun _ => zpc_ck (zpc_bv (fun v31 _ => zpc_ck (zpc_bv (fun σ32 _ => zpc_bu zpc_tt (fun σ33 _ => zpc_some (zr_w (zr_c (x := 8) (lo := 8) (hi := 8) (by decide)) (by decide)))))))) (fun _ => zpc_if (fun _ => zpc_bi zpc_tt (fun σ34 v35 _ => zpc_ck (zpc_bv (fun σ36 _ => zpc_ck (zpc_ck (zpc_bv (fun σ37 _ => zpc_ck (zpc_ck (zpc_bv (fun σ38 _ => zpc_some (zr_w (zr_c (x := 14) (lo := 14) (hi := 14) (by decide)) (by decide)))))))))))) (fun _ => zpc_if (fun _ => zpc_ck (zpc_if (fun _ => zpc_ck (zpc_mono (pb_fX12_more_387) (fun _ h => zr_w h (by decide)))) (fun _ => zpc_mono (pb_fX12_more_387) (fun _ h => zr_w h (by decide))))) (fun _ => zpc_bi (pb_fX12_specials) (fun σ39 v40 hv40 => zpc_some (zr_w hv40 (by decide))))))))))) (fun _ => zpc_some (zr_w (zr_c (x := 8) (lo := 8) (hi := 8) (by decide)) (by decide)))
theorem pb_fX12_blocks_595 {σ : zSt} : zpc (fX12_blocks_595 σ) (fun r => zr (16) (16) r.2) := by
  unfold fX12_blocks_595
  exact zpc_some (zr_c (x := 16) (lo := 16) (hi := 16) (by decide))
theorem pb_fX12_blocks_641 {σ : zSt} : zpc (fX12_blocks_641 σ) (fun r => zr (21) (21) r.2) := by
  unfold fX12_blocks_641
  exact zpc_some (zr_c (x := 21) (lo := 21) (hi := 21) (by decide))
theorem pb_fX12_blocks_584 {σ : zSt} {x1 : Int32} {x2 : Int32} {x5 : Int32} : zpc (fX12_blocks_584 σ x1 x2 x5) (fun r => zr (16) (21) r.2) := by
  unfold fX12_blocks_584
  exact zpc_if (fun _ => zpc_mono (pb_fX12_blocks_595) (fun _ h => zr_w h (by decide))) (fun _ => zpc_if (fun _ => zpc_mono (pb_fX12_blocks_595) (fun _ h => zr_w h (by decide))) (fun _ => zpc_ck (zpc_ck (zpc_bv (fun σ1 _ => zpc_if (fun _ => zpc_mono (pb_fX12_blocks_641) (fun _ h => zr_w h (by decide))) (fun _ => zpc_ck (zpc_ck (zpc_bv (fun σ2 _ => zpc_mono (pb_fX12_blocks_641) (fun _ h => zr_w h (by decide)))))))))))
theorem pb_fX12_blocks_582 {σ : zSt} {x1 : Int32} {x2 : Int32} {s0 : Int32} : zpc (fX12_blocks_582 σ x1 x2 s0) (fun r => zr (16) (21) r.2) := by
  unfold fX12_blocks_582
  exact pb_fX12_blocks_584
theorem pb_fX12_blocks_545 {σ : zSt} {x1 : Int32} {x2 : Int32} {x6 : Int32} {s0 : Int32} {s1 : Int32} : zpc (fX12_blocks_545 σ x1 x2 x6 s0 s1) (fun r => zr (16) (21) r.2) := by
  unfold fX12_blocks_545
  exact zpc_bu zpc_tt (fun σ27 _ => zpc_ck (zpc_bi zpc_tt (fun σ28 v29 _ => zpc_bu zpc_tt (fun σ30 _ => zpc_ck (zpc_if (fun _ => pb_fX12_blocks_582) (fun _ => pb_fX12_blocks_582))))))
theorem pb_fX12_blocks_527 {σ : zSt} {x1 : Int32} {x2 : Int32} {x6 : Int32} {s0 : Int32} {s1 : Int32} : zpc (fX12_blocks_527 σ x1 x2 x6 s0 s1) (fun r => zr (16) (21) r.2) := by
  unfold fX12_blocks_527
  exact zpc_bu zpc_tt (fun σ31 _ => zpc_if (fun _ => pb_fX12_blocks_545) (fun _ => pb_fX12_blocks_545))
theorem pb_fX12_blocks_509 {σ : zSt} {x1 : Int32} {x2 : Int32} {x6 : Int32} {s0 : Int32} {s1 : Int32} : zpc (fX12_blocks_509 σ x1 x2 x6 s0 s1) (fun r => zr (16) (21) r.2) := by
  unfold fX12_blocks_509
  exact zpc_bu zpc_tt (fun σ32 _ => zpc_if (fun _ => pb_fX12_blocks_527) (fun _ => pb_fX12_blocks_527))
theorem pb_fX12_blocks_485 {σ : zSt} {x1 : Int32} {x2 : Int32} {x4 : Int32} {x6 : Int32} : zpc (fX12_blocks_485 σ x1 x2 x4 x6) (fun r => zr (16) (21) r.2) := by
  unfold fX12_blocks_485
  exact zpc_ck (zpc_bu zpc_tt (fun σ33 _ => zpc_if (fun _ => pb_fX12_blocks_509) (fun _ => pb_fX12_blocks_509)))
theorem pb_fX12_blocks_297 {σ : zSt} {x1 : Int32} {x2 : Int32} {s0 : Int32} : zpc (fX12_blocks_297 σ x1 x2 s0) (fun r => zr (16) (21) r.2) := by
  unfold fX12_blocks_297
  exact pb_fX12_blocks_584
theorem pb_fX12_blocks_292 {σ : zSt} {x1 : Int32} {x2 : Int32} : zpc (fX12_blocks_292 σ x1 x2) (fun r => zr (16) (21) r.2) := by
  unfold fX12_blocks_292
  exact pb_fX12_blocks_297
theorem pb_fX12_blocks_296 {σ : zSt} {x1 : Int32} {x2 : Int32} : zpc (fX12_blocks_296 σ x1 x2) (fun r => zr (16) (21) r.2) := by
  unfold fX12_blocks_296
  exact pb_fX12_blocks_297
theorem pb_fX12_blocks_267 {σ : zSt} {x1 : Int32} {x2 : Int32} {s0 : Int32} {s1 : Int32} : zpc (fX12_blocks_267 σ x1 x2 s0 s1) (fun r => zr (16) (21) r.2) := by
  unfold fX12_blocks_267
  exact zpc_bu zpc_tt (fun σ3 _ => zpc_bi zpc_tt (fun σ4 v5 _ => zpc_if (fun _ => zpc_if (fun _ => pb_fX12_blocks_292) (fun _ => zpc_bi zpc_tt (fun σ6 v7 _ => zpc_if (fun _ => pb_fX12_blocks_292) (fun _ => pb_fX12_blocks_296)))) (fun _ => pb_fX12_blocks_296)))
theorem pb_fX12_blocks_249 {σ : zSt} {x1 : Int32} {x2 : Int32} {s0 : Int32} {s1 : Int32} : zpc (fX12_blocks_249 σ x1 x2 s0 s1) (fun r => zr (16) (21) r.2) := by
  unfold fX12_blocks_249
  exact zpc_bu zpc_tt (fun σ8 _ => zpc_bi zpc_tt (fun σ9 v10 _ => zpc_if (fun _ => pb_fX12_blocks_267) (fun _ => pb_fX12_blocks_267)))
theorem pb_fX12_blocks_234 {σ : zSt} {x1 : Int32} {x2 : Int32} {s0 : Int32} {s1 : Int32} : zpc (fX12_blocks_234 σ x1 x2 s0 s1) (fun r => zr (16) (21) r.2) := by
  unfold fX12_blocks_234
  exact zpc_bu zpc_tt (fun σ11 _ => zpc_if (fun _ => pb_fX12_blocks_249) (fun _ => pb_fX12_blocks_249))
theorem pb_fX12_blocks_216 {σ : zSt} {x1 : Int32} {x2 : Int32} {x6 : Int32} {s0 : Int32} {s1 : Int32} : zpc (fX12_blocks_216 σ x1 x2 x6 s0 s1) (fun r => zr (16) (21) r.2) := by
  unfold fX12_blocks_216
  exact zpc_bu zpc_tt (fun σ12 _ => zpc_if (fun _ => pb_fX12_blocks_234) (fun _ => pb_fX12_blocks_234))
theorem pb_fX12_blocks_202 {σ : zSt} {x1 : Int32} {x2 : Int32} {x6 : Int32} : zpc (fX12_blocks_202 σ x1 x2 x6) (fun r => zr (16) (21) r.2) := by
  unfold fX12_blocks_202
  exact zpc_if (fun _ => pb_fX12_blocks_216) (fun _ => pb_fX12_blocks_216)
theorem pb_fX12_blocks_190 {σ : zSt} {x1 : Int32} {x2 : Int32} {s0 : Int32} {s1 : Int32} : zpc (fX12_blocks_190 σ x1 x2 s0 s1) (fun r => zr (16) (21) r.2) := by
  unfold fX12_blocks_190
  exact zpc_bv (fun v13 _ => pb_fX12_blocks_202)
theorem pb_fX12_blocks_159 {σ : zSt} {x1 : Int32} {x2 : Int32} {x6 : Int32} {s0 : Int32} : zpc (fX12_blocks_159 σ x1 x2 x6 s0) (fun r => zr (16) (21) r.2) := by
  unfold fX12_blocks_159
  exact zpc_bu zpc_tt (fun σ14 _ => zpc_bu zpc_tt (fun σ15 _ => zpc_if (fun _ => pb_fX12_blocks_190) (fun _ => pb_fX12_blocks_190)))
theorem pb_fX12_blocks_111 {σ : zSt} {x1 : Int32} {x2 : Int32} {x3 : Int32} {x4 : Int32} {s0 : Int32} : zpc (fX12_blocks_111 σ x1 x2 x3 x4 s0) (fun r => zr (16) (21) r.2) := by
  unfold fX12_blocks_111
  exact zpc_if (fun _ => zpc_ck (zpc_ck (zpc_bv (fun σ17 _ => zpc_ck (zpc_if (fun _ => pb_fX12_blocks_159) (fun _ => pb_fX12_blocks_159)))))) (fun _ => zpc_bu zpc_tt (fun σ16 _ => pb_fX12_blocks_202))
theorem pb_fX12_blocks_74 {σ : zSt} {x1 : Int32} {x2 : Int32} {x3 : Int32} {x4 : Int32} : zpc (fX12_blocks_74 σ x1 x2 x3 x4) (fun r => zr (16) (21) r.2) := by
  unfold fX12_blocks_74
  exact zpc_bi zpc_tt (fun σ18 v19 _ => zpc_bu zpc_tt (fun σ20 _ => zpc_if (fun _ => zpc_ck (pb_fX12_blocks_111)) (fun _ => zpc_ck (pb_fX12_blocks_111))))
theorem pb_fX12_blocks_44 {σ : zSt} {x1 : Int32} {x2 : Int32} {x3 : Int32} {x4 : Int32} : zpc (fX12_blocks_44 σ x1 x2 x3 x4) (fun r => zr (16) (21) r.2) := by
  unfold fX12_blocks_44
  exact zpc_bi zpc_tt (fun σ21 v22 _ => zpc_bu zpc_tt (fun σ23 _ => zpc_if (fun _ => zpc_bi zpc_tt (fun σ24 v25 _ => zpc_bu zpc_tt (fun σ26 _ => pb_fX12_blocks_74))) (fun _ => pb_fX12_blocks_74)))
theorem pb_fX12_blocks_11 {σ : zSt} {x1 : Int32} {x2 : Int32} {s0 : Int32} : zpc (fX12_blocks_11 σ x1 x2 s0) (fun r => zr (16) (21) r.2) := by
  unfold fX12_blocks_11
  exact zpc_if (fun _ => zpc_if (fun _ => zpc_bi zpc_tt (fun σ47 v48 _ => zpc_ck (zpc_bv (fun σ49 _ => zpc_ck (zpc_bi zpc_tt (fun σ50 v51 _ => zpc_ck (zpc_ck (zpc_bv (fun σ52 _ => zpc_bi zpc_tt (fun σ53 v54 _ => zpc_bu zpc_tt (fun σ55 _ => zpc_bi zpc_tt (fun σ56 v57 _ => zpc_bu zpc_tt (fun σ58 _ => zpc_ck (zpc_bv (fun v59 _ => pb_fX12_blocks_485))))))))))))))) (fun _ => zpc_bi zpc_tt (fun σ34 v35 _ => zpc_bi zpc_tt (fun σ36 v37 _ => zpc_ck (zpc_ck (zpc_bv (fun σ38 _ => zpc_ck (zpc_bu zpc_tt (fun σ39 _ => zpc_bi zpc_tt (fun σ40 v41 _ => zpc_bu zpc_tt (fun σ42 _ => zpc_bi zpc_tt (fun σ43 v44 _ => zpc_ck (zpc_bv (fun σ45 _ => zpc_ck (zpc_bv (fun v46 _ => pb_fX12_blocks_485)))))))))))))))) (fun _ => zpc_bi zpc_tt (fun σ60 v61 _ => zpc_bi zpc_tt (fun σ62 v63 _ => zpc_if (fun _ => zpc_bi zpc_tt (fun σ64 v65 _ => zpc_bu zpc_tt (fun σ66 _ => pb_fX12_blocks_44))) (fun _ => pb_fX12_blocks_44))))
theorem pb_fX12_blocks {σ : zSt} {x1 : Int32} {x2 : Int32} : zpc (fX12_blocks σ x1 x2) (fun r => zr (16) (21) r.2) := by
  unfold fX12_blocks
  exact zpc_ck (zpc_if (fun _ => pb_fX12_blocks_11) (fun _ => pb_fX12_blocks_11))
theorem pb_fX12_more {σ : zSt} {x1 : Int32} : zpc (fX12_more σ x1) (fun r => zr (8) (21) r.2) := by
  unfold fX12_more
  exact zpc_bv (fun v41 _ => zpc_bv (fun v42 _ => zpc_bv (fun v43 _ => zpc_if (fun _ => zpc_if (fun _ => zpc_mono (pb_fX12_more_42) (fun _ h => zr_w h (by decide))) (fun _ => zpc_if (fun _ => zpc_mono (pb_fX12_more_42) (fun _ h => zr_w h (by decide))) (fun _ => zpc_bi (pb_fX12_blocks) (fun σ44 v45 hv45 => zpc_some (zr_w hv45 (by decide)))))) (fun _ => zpc_mono (pb_fX12_more_42) (fun _ h => zr_w h (by decide))))))
theorem pb_fX12_more3_200 {σ : zSt} {s0 : Int32} (qs0 : zr 4 35 s0) : zpc (fX12_more3_200 σ s0) (fun r => zr (4) (35) r.2) := by
  unfold fX12_more3_200
  exact zpc_some qs0
theorem pb_fX12_prefixed_33 {σ : zSt} : zpc (fX12_prefixed_33 σ) (fun r => zr (4) (4) r.2) := by
  unfold fX12_prefixed_33
  exact zpc_ck (zpc_bv (fun σ1 _ => zpc_some (zr_c (x := 4) (lo := 4) (hi := 4) (by decide))))
theorem pb_fX12_turn_122 {σ : zSt} {s0 : Int32} (qs0 : zr 8 12 s0) : zpc (fX12_turn_122 σ s0) (fun r => zr (8) (12) r.2) := by
  unfold fX12_turn_122
  exact zpc_some qs0
theorem pb_fX12_turn_106 {σ : zSt} {x3 : Int32} {s0 : Int32} : zpc (fX12_turn_106 σ x3 s0) (fun r => zr (8) (12) r.2) := by
  unfold fX12_turn_106
  exact zpc_bu zpc_tt (fun σ1 _ => zpc_if (fun _ => pb_fX12_turn_122 (zr_w (zr_c (x := 12) (lo := 12) (hi := 12) (by decide)) (by decide))) (fun _ => pb_fX12_turn_122 (zr_w (zr_c (x := 8) (lo := 8) (hi := 8) (by decide)) (by decide))))
theorem pb_fX12_turn_69 {σ : zSt} {x3 : Int32} {x4 : Int32} {s0 : Int32} {s1 : Int32} : zpc (fX12_turn_69 σ x3 x4 s0 s1) (fun r => zr (8) (12) r.2) := by
  unfold fX12_turn_69
  exact zpc_bu zpc_tt (fun σ2 _ => zpc_bu zpc_tt (fun σ3 _ => zpc_bu zpc_tt (fun σ4 _ => zpc_if (fun _ => zpc_ck (pb_fX12_turn_106)) (fun _ => pb_fX12_turn_106))))
theorem pb_fX12_turn_219 {σ : zSt} {s0 : Int32} (qs0 : zr 8 15 s0) : zpc (fX12_turn_219 σ s0) (fun r => zr (8) (15) r.2) := by
  unfold fX12_turn_219
  exact zpc_some qs0
theorem pb_fX12_turn_193 {σ : zSt} {x3 : Int32} {x4 : Int32} : zpc (fX12_turn_193 σ x3 x4) (fun r => zr (8) (15) r.2) := by
  unfold fX12_turn_193
  exact zpc_bu zpc_tt (fun σ5 _ => zpc_bv (fun σ6 _ => zpc_if (fun _ => pb_fX12_turn_219 (zr_w (zr_c (x := 15) (lo := 15) (hi := 15) (by decide)) (by decide))) (fun _ => pb_fX12_turn_219 (zr_w (zr_c (x := 8) (lo := 8) (hi := 8) (by decide)) (by decide)))))
theorem pb_fX12_turn_191 {σ : zSt} {x3 : Int32} {s0 : Int32} : zpc (fX12_turn_191 σ x3 s0) (fun r => zr (8) (15) r.2) := by
  unfold fX12_turn_191
  exact pb_fX12_turn_193
theorem pb_fX12_turn_23 {σ : zSt} {x1 : Int32} {x2 : Int32} {s0 : Int32} : zpc (fX12_turn_23 σ x1 x2 s0) (fun r => zr (8) (15) r.2) := by
  unfold fX12_turn_23
  exact zpc_bi zpc_tt (fun σ7 v8 _ => zpc_bv (fun v9 _ => zpc_if (fun _ => zpc_bv (fun v18 _ => zpc_bu zpc_tt (fun σ19 _ => zpc_if (fun _ => zpc_mono (pb_fX12_turn_69) (fun _ h => zr_w h (by decide))) (fun _ => zpc_mono (pb_fX12_turn_69) (fun _ h => zr_w h (by decide)))))) (fun _ => zpc_if (fun _ => zpc_bi zpc_tt (fun σ10 v11 _ => zpc_bu zpc_tt (fun σ12 _ => zpc_bi zpc_tt (fun σ13 v14 _ => zpc_bu zpc_tt (fun σ15 _ => zpc_bu zpc_tt (fun σ16 _ => zpc_bu zpc_tt (fun σ17 _ => pb_fX12_turn_193))))))) (fun _ => zpc_if (fun _ => pb_fX12_turn_191) (fun _ => pb_fX12_turn_191)))))
theorem pb_fX12_turn {σ : zSt} {x1 : Int32} : zpc (fX12_turn σ x1) (fun r => zr (8) (15) r.2) := by
  unfold fX12_turn
  exact zpc_bv (fun v20 _ => zpc_if (fun _ => pb_fX12_turn_23) (fun _ => pb_fX12_turn_23))
theorem pb_fX12_prefixed_154 {σ : zSt} {s0 : Int32} (qs0 : zr 16 23 s0) : zpc (fX12_prefixed_154 σ s0) (fun r => zr (16) (23) r.2) := by
  unfold fX12_prefixed_154
  exact zpc_some qs0
theorem pb_fX12_prefixed_135 {σ : zSt} {x4 : Int32} {x5 : Int32} (qx5 : zr 8 15 x5) : zpc (fX12_prefixed_135 σ x4 x5) (fun r => zr (16) (23) r.2) := by
  unfold fX12_prefixed_135
  exact zpc_if (fun _ => pb_fX12_prefixed_154 (zr_w (zr_c (x := 20) (lo := 20) (hi := 20) (by decide)) (by decide))) (fun _ => pb_fX12_prefixed_154 (zr_add (lo := 16) (hi := 23) qx5 (zr_c (x := 8) (lo := 8) (hi := 8) (by decide)) (by decide)))
theorem pb_fX12_plain_r1_64 {σ : zSt} {s0 : Int32} (qs0 : zr 4 16 s0) : zpc (fX12_plain_r1_64 σ s0) (fun r => zr (4) (16) r.2) := by
  unfold fX12_plain_r1_64
  exact zpc_some qs0
theorem pb_fX12_plain_r1_116 {σ : zSt} {s0 : Int32} (qs0 : zr 4 7 s0) : zpc (fX12_plain_r1_116 σ s0) (fun r => zr (4) (7) r.2) := by
  unfold fX12_plain_r1_116
  exact zpc_some qs0
theorem pb_fX12_plain_r1_115 {σ : zSt} : zpc (fX12_plain_r1_115 σ) (fun r => zr (4) (7) r.2) := by
  unfold fX12_plain_r1_115
  exact pb_fX12_plain_r1_116 (zr_w (zr_c (x := 4) (lo := 4) (hi := 4) (by decide)) (by decide))
theorem pb_fX12_plain_r1_110 {σ : zSt} : zpc (fX12_plain_r1_110 σ) (fun r => zr (4) (7) r.2) := by
  unfold fX12_plain_r1_110
  exact pb_fX12_plain_r1_116 (zr_w (zr_c (x := 7) (lo := 7) (hi := 7) (by decide)) (by decide))
theorem pb_fX12_plain_r1_92 {σ : zSt} {x1 : Int32} {x2 : Int32} {x3 : Int32} : zpc (fX12_plain_r1_92 σ x1 x2 x3) (fun r => zr (4) (7) r.2) := by
  unfold fX12_plain_r1_92
  exact zpc_if (fun _ => pb_fX12_plain_r1_115) (fun _ => zpc_if (fun _ => pb_fX12_plain_r1_110) (fun _ => zpc_if (fun _ => pb_fX12_plain_r1_110) (fun _ => pb_fX12_plain_r1_115)))
theorem pb_fX12_plain_r1_139 {σ : zSt} {s0 : Int32} (qs0 : zr 4 7 s0) : zpc (fX12_plain_r1_139 σ s0) (fun r => zr (4) (7) r.2) := by
  unfold fX12_plain_r1_139
  exact zpc_some qs0
theorem pb_fX12_more3_r1_119 {σ : zSt} {s0 : Int32} : zpc (fX12_more3_r1_119 σ s0) (fun r => zr (11) (11) r.2) := by
  unfold fX12_more3_r1_119
  exact zpc_bu zpc_tt (fun σ1 _ => zpc_some (zr_c (x := 11) (lo := 11) (hi := 11) (by decide)))
theorem pb_fX12_more3_r1_200 {σ : zSt} {s0 : Int32} (qs0 : zr 4 23 s0) : zpc (fX12_more3_r1_200 σ s0) (fun r => zr (4) (23) r.2) := by
  unfold fX12_more3_r1_200
  exact zpc_some qs0
theorem pb_fX12_prefixed_r1_33 {σ : zSt} : zpc (fX12_prefixed_r1_33 σ) (fun r => zr (4) (4) r.2) := by
  unfold fX12_prefixed_r1_33
  exact zpc_ck (zpc_bv (fun σ1 _ => zpc_some (zr_c (x := 4) (lo := 4) (hi := 4) (by decide))))
theorem pb_fX12_prefixed_r1_154 {σ : zSt} {s0 : Int32} (qs0 : zr 16 23 s0) : zpc (fX12_prefixed_r1_154 σ s0) (fun r => zr (16) (23) r.2) := by
  unfold fX12_prefixed_r1_154
  exact zpc_some qs0
theorem pb_fX12_prefixed_r1_135 {σ : zSt} {x4 : Int32} {x5 : Int32} (qx5 : zr 8 15 x5) : zpc (fX12_prefixed_r1_135 σ x4 x5) (fun r => zr (16) (23) r.2) := by
  unfold fX12_prefixed_r1_135
  exact zpc_if (fun _ => pb_fX12_prefixed_r1_154 (zr_w (zr_c (x := 20) (lo := 20) (hi := 20) (by decide)) (by decide))) (fun _ => pb_fX12_prefixed_r1_154 (zr_add (lo := 16) (hi := 23) qx5 (zr_c (x := 8) (lo := 8) (hi := 8) (by decide)) (by decide)))
theorem pb_fX12_prefixed_r1_244 {σ : zSt} {x1 : Int32} {x3 : Int32} {s0 : Int32} : zpc (fX12_prefixed_r1_244 σ x1 x3 s0) (fun r => zr (10) (10) r.2) := by
  unfold fX12_prefixed_r1_244
  exact zpc_if (fun _ => zpc_bv (fun σ8 _ => zpc_none)) (fun _ => zpc_ck (zpc_bi zpc_tt (fun σ2 v3 _ => zpc_bi zpc_tt (fun σ4 v5 _ => zpc_ck (zpc_bv (fun σ6 _ => zpc_ck (zpc_bv (fun σ7 _ => zpc_none))))))))
theorem pb_fX12_prefixed_r1_239 {σ : zSt} {x1 : Int32} {x3 : Int32} : zpc (fX12_prefixed_r1_239 σ x1 x3) (fun r => zr (10) (10) r.2) := by
  unfold fX12_prefixed_r1_239
  exact pb_fX12_prefixed_r1_244
theorem pb_fX12_prefixed_r1_243 {σ : zSt} {x1 : Int32} {x3 : Int32} : zpc (fX12_prefixed_r1_243 σ x1 x3) (fun r => zr (10) (10) r.2) := by
  unfold fX12_prefixed_r1_243
  exact pb_fX12_prefixed_r1_244
theorem pb_fX12_prefixed_r1_226 {σ : zSt} {x1 : Int32} {x3 : Int32} {x5 : Int32} {x6 : Int32} : zpc (fX12_prefixed_r1_226 σ x1 x3 x5 x6) (fun r => zr (10) (10) r.2) := by
  unfold fX12_prefixed_r1_226
  exact zpc_if (fun _ => zpc_if (fun _ => pb_fX12_prefixed_r1_239) (fun _ => pb_fX12_prefixed_r1_243)) (fun _ => pb_fX12_prefixed_r1_243)
theorem pb_fX12_prefixed_r1_220 {σ : zSt} {x1 : Int32} {x3 : Int32} {x5 : Int32} {x6 : Int32} : zpc (fX12_prefixed_r1_220 σ x1 x3 x5 x6) (fun r => zr (10) (10) r.2) := by
  unfold fX12_prefixed_r1_220
  exact zpc_if (fun _ => pb_fX12_prefixed_r1_226) (fun _ => pb_fX12_prefixed_r1_239)
theorem pb_fX12_prefixed_r1_200 {σ : zSt} {x1 : Int32} {x3 : Int32} {x4 : Int32} {x5 : Int32} {x6 : Int32} : zpc (fX12_prefixed_r1_200 σ x1 x3 x4 x5 x6) (fun r => zr (10) (10) r.2) := by
  unfold fX12_prefixed_r1_200
  exact zpc_if (fun _ => zpc_if (fun _ => pb_fX12_prefixed_r1_220) (fun _ => zpc_if (fun _ => pb_fX12_prefixed_r1_220) (fun _ => pb_fX12_prefixed_r1_226))) (fun _ => pb_fX12_prefixed_r1_226)
theorem pb_fX12_prefixed_r1 {σ : zSt} {x1 : Int32} : zpc (fX12_prefixed_r1 σ x1) (fun r => zr (4) (23) r.2) := by
  unfold fX12_prefixed_r1
  exact zpc_ck (zpc_bi zpc_tt (fun σ9 v10 _ => zpc_if (fun _ => zpc_mono (pb_fX12_prefixed_r1_33) (fun _ h => zr_w h (by decide))) (fun _ => zpc_if (fun _ => zpc_mono (pb_fX12_prefixed_r1_33) (fun _ h => zr_w h (by decide))) (fun _ => zpc_if (fun _ => zpc_mono (pb_fX12_prefixed_r1_33) (fun _ h => zr_w h (by decide))) (fun _ => zpc_bi zpc_tt (fun σ11 v12 _ => zpc_if (fun _ => zpc_ck (zpc_bi zpc_tt (fun σ16 v17 _ => zpc_bi zpc_tt (fun σ18 v19 _ => zpc_ck (zpc_bv (fun σ20 _ => zpc_ck (zpc_bv (fun σ21 _ => zpc_bi zpc_tt (fun σ22 v23 _ => zpc_bi (pb_fX12_turn) (fun σ24 v25 hv25 => zpc_if (fun _ => zpc_mono (pb_fX12_prefixed_r1_135 hv25) (fun _ h => zr_w h (by decide))) (fun _ => zpc_if (fun _ => zpc_mono (pb_fX12_prefixed_r1_135 hv25) (fun _ h => zr_w h (by decide))) (fun _ => zpc_ck (zpc_bv (fun σ26 _ => zpc_bu zpc_tt (fun σ27 _ => zpc_mono (pb_fX12_prefixed_r1_135 hv25) (fun _ h => zr_w h (by decide))))))))))))))))) (fun _ => zpc_bv (fun v13 _ => zpc_bv (fun v14 _ => zpc_bv (fun v15 _ => zpc_if (fun _ => zpc_if (fun _ => zpc_mono (pb_fX12_prefixed_r1_200) (fun _ h => zr_w h (by decide))) (fun _ => zpc_if (fun _ => zpc_mono (pb_fX12_prefixed_r1_200) (fun _ h => zr_w h (by decide))) (fun _ => zpc_if (fun _ => zpc_mono (pb_fX12_prefixed_r1_239) (fun _ h => zr_w h (by decide))) (fun _ => zpc_mono (pb_fX12_prefixed_r1_200) (fun _ h => zr_w h (by decide)))))) (fun _ => zpc_mono (pb_fX12_prefixed_r1_200) (fun _ h => zr_w h (by decide)))))))))))))
theorem pb_fX12_more3_r1_197 {σ : zSt} {s0 : Int32} : zpc (fX12_more3_r1_197 σ s0) (fun r => zr (4) (23) r.2) := by
  unfold fX12_more3_r1_197
  exact zpc_bi (pb_fX12_prefixed_r1) (fun σ2 v3 hv3 => pb_fX12_more3_r1_200 hv3)
theorem pb_fX12_more3_r1 {σ : zSt} {x1 : Int32} {x2 : Int32} : zpc (fX12_more3_r1 σ x1 x2) (fun r => zr (4) (23) r.2) := by
  unfold fX12_more3_r1
  exact zpc_bv (fun v4 _ => zpc_if (fun _ => zpc_bi zpc_tt (fun σ22 v23 _ => zpc_ck (zpc_bv (fun σ24 _ => zpc_bi zpc_tt (fun σ25 v26 _ => zpc_if (fun _ => zpc_some (zr_w (zr_c (x := 10) (lo := 10) (hi := 10) (by decide)) (by decide))) (fun _ => zpc_ck (zpc_bu zpc_tt (fun σ27 _ => zpc_ck (zpc_ck (zpc_bv (fun σ28 _ => zpc_some (zr_w (zr_c (x := 17) (lo := 17) (hi := 17) (by decide)) (by decide))))))))))))) (fun _ => zpc_if (fun _ => zpc_bi zpc_tt (fun σ19 v20 _ => zpc_bu zpc_tt (fun σ21 _ => zpc_some (zr_w (zr_c (x := 7) (lo := 7) (hi := 7) (by decide)) (by decide))))) (fun _ => zpc_if (fun _ => zpc_bu zpc_tt (fun σ18 _ => zpc_some (zr_w (zr_c (x := 11) (lo := 11) (hi := 11) (by decide)) (by decide)))) (fun _ => zpc_ck (zpc_if (fun _ => zpc_if (fun _ => zpc_bi zpc_tt (fun σ16 v17 _ => zpc_mono (pb_fX12_more3_r1_119) (fun _ h => zr_w h (by decide)))) (fun _ => zpc_bi zpc_tt (fun σ14 v15 _ => zpc_mono (pb_fX12_more3_r1_119) (fun _ h => zr_w h (by decide))))) (fun _ => zpc_if (fun _ => zpc_bi zpc_tt (fun σ9 v10 _ => zpc_ck (zpc_bv (fun σ11 _ => zpc_ck (zpc_bu zpc_tt (fun σ12 _ => zpc_ck (zpc_ck (zpc_bv (fun σ13 _ => zpc_some (zr_w (zr_c (x := 17) (lo := 17) (hi := 17) (by decide)) (by decide))))))))))) (fun _ => zpc_if (fun _ => zpc_bi zpc_tt (fun σ5 v6 _ => zpc_bi (pb_fX12_more) (fun σ7 v8 hv8 => pb_fX12_more3_r1_200 (zr_w hv8 (by decide))))) (fun _ => zpc_if (fun _ => pb_fX12_more3_r1_197) (fun _ => pb_fX12_more3_r1_197)))))))))
theorem pb_fX12_plain_r1_160 {σ : zSt} {s0 : Int32} (qs0 : zr 4 23 s0) : zpc (fX12_plain_r1_160 σ s0) (fun r => zr (4) (23) r.2) := by
  unfold fX12_plain_r1_160
  exact zpc_some qs0
theorem pb_fX12_three_85 {σ : zSt} : zpc (fX12_three_85 σ) (fun r => zr (10) (10) r.2) := by
  unfold fX12_three_85
  exact zpc_some (zr_c (x := 10) (lo := 10) (hi := 10) (by decide))
theorem pb_fX12_three_200 {σ : zSt} {s0 : Int32} (qs0 : zr 4 6 s0) : zpc (fX12_three_200 σ s0) (fun r => zr (4) (6) r.2) := by
  unfold fX12_three_200
  exact zpc_some qs0
theorem pb_fX12_three_189 {σ : zSt} {x3 : Int32} : zpc (fX12_three_189 σ x3) (fun r => zr (4) (6) r.2) := by
  unfold fX12_three_189
  exact zpc_if (fun _ => pb_fX12_three_200 (zr_w (zr_c (x := 6) (lo := 6) (hi := 6) (by decide)) (by decide))) (fun _ => pb_fX12_three_200 (zr_w (zr_c (x := 4) (lo := 4) (hi := 4) (by decide)) (by decide)))
theorem pb_fX12_three_173 {σ : zSt} {x3 : Int32} : zpc (fX12_three_173 σ x3) (fun r => zr (4) (6) r.2) := by
  unfold fX12_three_173
  exact zpc_if (fun _ => zpc_bi zpc_tt (fun σ1 v2 _ => zpc_ck (zpc_bv (fun σ3 _ => pb_fX12_three_189)))) (fun _ => pb_fX12_three_189)
theorem pb_fX12_three_157 {σ : zSt} {x3 : Int32} : zpc (fX12_three_157 σ x3) (fun r => zr (4) (6) r.2) := by
  unfold fX12_three_157
  exact zpc_if (fun _ => zpc_bi zpc_tt (fun σ4 v5 _ => zpc_ck (zpc_bv (fun σ6 _ => pb_fX12_three_173)))) (fun _ => pb_fX12_three_173)
theorem pb_fX12_three_128_body {k128 : zSt → Int32 → Int32 → Option (zSt × Int32)} (hk : ∀ (y0 : zSt) (y1 : Int32) (y2 : Int32), zpc (k128 y0 y1 y2) (fun r => zr (4) (6) r.2)) {σ : zSt} {x3 : Int32} {x4 : Int32} : zpc (fX12_three_128_body k128 σ x3 x4) (fun r => zr (4) (6) r.2) := by
  unfold fX12_three_128_body
  exact zpc_if (fun _ => zpc_if (fun _ => pb_fX12_three_157) (fun _ => zpc_bu zpc_tt (fun σ7 _ => zpc_bv (fun v8 _ => hk _ _ _)))) (fun _ => pb_fX12_three_157)
theorem pb_fX12_three_128 : ∀ (n : Nat) (y0 : zSt) (y1 : Int32) (y2 : Int32), zpc (fX12_three_128 n y0 y1 y2) (fun r => zr (4) (6) r.2) := by
  intro n
  induction n with
  | zero => intro y0 y1 y2; exact zpc_none
  | succ n ih => intro y0 y1 y2; exact pb_fX12_three_128_body ih
theorem pb_fX12_three_239 {σ : zSt} : zpc (fX12_three_239 σ) (fun r => zr (10) (10) r.2) := by
  unfold fX12_three_239
  exact zpc_some (zr_c (x := 10) (lo := 10) (hi := 10) (by decide))
theorem pb_fX12_turns {σ : zSt} : zpc (fX12_turns σ) (fun r => zr (8) (15) r.2) := by
  unfold fX12_turns
  exact zpc_bi zpc_tt (fun σ1 v2 _ => zpc_bi (pb_fX12_turn) (fun σ3 v4 hv4 => zpc_some hv4))
theorem pb_fX12_three_502 {σ : zSt} : zpc (fX12_three_502 σ) (fun r => zr (4) (4) r.2) := by
  unfold fX12_three_502
  exact zpc_some (zr_c (x := 4) (lo := 4) (hi := 4) (by decide))
theorem pb_fX12_three_88 {σ : zSt} {x1 : Int32} {x2 : Int32} {x3 : Int32} : zpc (fX12_three_88 σ x1 x2 x3) (fun r => zr (4) (19) r.2) := by
  unfold fX12_three_88
  exact zpc_if (fun _ => zpc_if (fun _ => zpc_bi zpc_tt (fun σ43 v44 _ => zpc_ck (zpc_bv (fun σ45 _ => zpc_ck (zpc_ck (zpc_bv (fun σ46 _ => zpc_some (zr_w (zr_c (x := 10) (lo := 10) (hi := 10) (by decide)) (by decide))))))))) (fun _ => zpc_mono (pb_fX12_three_128 _ _ _ _) (fun _ h => zr_w h (by decide)))) (fun _ => zpc_if (fun _ => zpc_bi zpc_tt (fun σ37 v38 _ => zpc_ck (zpc_bv (fun σ39 _ => zpc_bi zpc_tt (fun σ40 v41 _ => zpc_if (fun _ => zpc_mono (pb_fX12_three_239) (fun _ h => zr_w h (by decide))) (fun _ => zpc_ck (zpc_ck (zpc_bv (fun σ42 _ => zpc_mono (pb_fX12_three_239) (fun _ h => zr_w h (by decide))))))))))) (fun _ => zpc_if (fun _ => zpc_bi zpc_tt (fun σ9 v10 _ => zpc_ck (zpc_bv (fun σ11 _ => zpc_ck (zpc_ck (zpc_bv (fun σ12 _ => zpc_some (zr_w (zr_c (x := 10) (lo := 10) (hi := 10) (by decide)) (by decide))))))))) (fun _ => zpc_if (fun _ => zpc_bi (pb_fX12_turns) (fun σ13 v14 hv14 => zpc_some (zr_w hv14 (by decide)))) (fun _ => zpc_if (fun _ => zpc_bi zpc_tt (fun σ15 v16 _ => zpc_ck (zpc_bu zpc_tt (fun σ17 _ => zpc_ck (zpc_ck (zpc_bv (fun σ18 _ => zpc_some (zr_w (zr_c (x := 11) (lo := 11) (hi := 11) (by decide)) (by decide))))))))) (fun _ => zpc_if (fun _ => zpc_bi zpc_tt (fun σ19 v20 _ => zpc_ck (zpc_ck (zpc_bv (fun σ21 _ => zpc_bi zpc_tt (fun σ22 v23 _ => zpc_ck (zpc_bv (fun σ24 _ => zpc_some (zr_w (zr_c (x := 11) (lo := 11) (hi := 11) (by decide)) (by decide)))))))))) (fun _ => zpc_if (fun _ => zpc_ck (zpc_bi zpc_tt (fun σ25 v26 _ => zpc_ck (zpc_bi zpc_tt (fun σ27 v28 _ => zpc_bu zpc_tt (fun σ29 _ => zpc_bu zpc_tt (fun σ30 _ => zpc_ck (zpc_bv (fun σ31 _ => zpc_some (zr_w (zr_c (x := 19) (lo := 19) (hi := 19) (by decide)) (by decide))))))))))) (fun _ => zpc_if (fun _ => zpc_bu zpc_tt (fun σ32 _ => zpc_bu zpc_tt (fun σ33 _ => zpc_some (zr_w (zr_c (x := 4) (lo := 4) (hi := 4) (by decide)) (by decide))))) (fun _ => zpc_ck (zpc_bv (fun σ34 _ => zpc_ck (zpc_bv (fun σ35 _ => zpc_if (fun _ => zpc_ck (zpc_bv (fun σ36 _ => zpc_mono (pb_fX12_three_502) (fun _ h => zr_w h (by decide))))) (fun _ => zpc_mono (pb_fX12_three_502) (fun _ h => zr_w h (by decide)))))))))))))))
theorem pb_fX12_three {σ : zSt} {x1 : Int32} {x2 : Int32} : zpc (fX12_three σ x1 x2) (fun r => zr (4) (19) r.2) := by
  unfold fX12_three
  exact zpc_bv (fun v47 _ => zpc_if (fun _ => zpc_bi zpc_tt (fun σ52 v53 _ => zpc_if (fun _ => zpc_some (zr_w (zr_c (x := 5) (lo := 5) (hi := 5) (by decide)) (by decide))) (fun _ => zpc_bi zpc_tt (fun σ54 v55 _ => zpc_ck (zpc_bv (fun σ56 _ => zpc_ck (zpc_ck (zpc_bv (fun σ57 _ => zpc_some (zr_w (zr_c (x := 11) (lo := 11) (hi := 11) (by decide)) (by decide))))))))))) (fun _ => zpc_if (fun _ => zpc_ck (zpc_if (fun _ => zpc_bi zpc_tt (fun σ48 v49 _ => zpc_if (fun _ => zpc_bu zpc_tt (fun σ51 _ => zpc_mono (pb_fX12_three_85) (fun _ h => zr_w h (by decide)))) (fun _ => zpc_bu zpc_tt (fun σ50 _ => zpc_mono (pb_fX12_three_85) (fun _ h => zr_w h (by decide)))))) (fun _ => pb_fX12_three_88))) (fun _ => pb_fX12_three_88)))
theorem pb_fX12_plain_r1 {σ : zSt} {x1 : Int32} : zpc (fX12_plain_r1 σ x1) (fun r => zr (4) (23) r.2) := by
  unfold fX12_plain_r1
  exact zpc_bv (fun v1 _ => zpc_bv (fun v2 _ => zpc_if (fun _ => zpc_if (fun _ => zpc_bi (pb_fX12_singles) (fun σ3 v4 hv4 => zpc_mono (pb_fX12_plain_r1_64 (zr_w hv4 (by decide))) (fun _ h => zr_w h (by decide)))) (fun _ => zpc_bi (pb_fX12_zero) (fun σ5 v6 hv6 => zpc_mono (pb_fX12_plain_r1_64 hv6) (fun _ h => zr_w h (by decide))))) (fun _ => zpc_if (fun _ => zpc_if (fun _ => zpc_ck (zpc_bv (fun σ10 _ => zpc_mono (pb_fX12_plain_r1_92) (fun _ h => zr_w h (by decide))))) (fun _ => zpc_bi zpc_tt (fun σ7 v8 _ => zpc_bu zpc_tt (fun σ9 _ => zpc_mono (pb_fX12_plain_r1_92) (fun _ h => zr_w h (by decide)))))) (fun _ => zpc_if (fun _ => zpc_bi zpc_tt (fun σ11 v12 _ => zpc_bu zpc_tt (fun σ13 _ => zpc_if (fun _ => zpc_mono (pb_fX12_plain_r1_139 (zr_w (zr_c (x := 7) (lo := 7) (hi := 7) (by decide)) (by decide))) (fun _ h => zr_w h (by decide))) (fun _ => zpc_mono (pb_fX12_plain_r1_139 (zr_w (zr_c (x := 4) (lo := 4) (hi := 4) (by decide)) (by decide))) (fun _ h => zr_w h (by decide)))))) (fun _ => zpc_if (fun _ => zpc_bi (pb_fX12_more3_r1) (fun σ14 v15 hv15 => pb_fX12_plain_r1_160 hv15)) (fun _ => zpc_bi (pb_fX12_three) (fun σ16 v17 hv17 => pb_fX12_plain_r1_160 (zr_w hv17 (by decide)))))))))
theorem pb_fX12_prefixed_311 {σ : zSt} {s0 : Int32} {s1 : Int32} (qs0 : zr 9 12 s0) (qs1 : zr 4 23 s1) : zpc (fX12_prefixed_311 σ s0 s1) (fun r => zr (13) (35) r.2) := by
  unfold fX12_prefixed_311
  exact zpc_some (zr_add (lo := 13) (hi := 35) qs1 qs0 (by decide))
theorem pb_fX12_prefixed_244 {σ : zSt} {x1 : Int32} {x3 : Int32} {s0 : Int32} : zpc (fX12_prefixed_244 σ x1 x3 s0) (fun r => zr (8) (35) r.2) := by
  unfold fX12_prefixed_244
  exact zpc_if (fun _ => zpc_bv (fun σ10 _ => zpc_bi (pb_fX12_plain_r1) (fun σ11 v12 hv12 => zpc_some (zr_w (zr_add (lo := 8) (hi := 27) hv12 (zr_c (x := 4) (lo := 4) (hi := 4) (by decide)) (by decide)) (by decide))))) (fun _ => zpc_ck (zpc_bi zpc_tt (fun σ2 v3 _ => zpc_bi zpc_tt (fun σ4 v5 _ => zpc_ck (zpc_bv (fun σ6 _ => zpc_ck (zpc_bv (fun σ7 _ => zpc_bi (pb_fX12_plain_r1) (fun σ8 v9 hv9 => zpc_if (fun _ => zpc_mono (pb_fX12_prefixed_311 (zr_w (zr_c (x := 9) (lo := 9) (hi := 9) (by decide)) (by decide)) hv9) (fun _ h => zr_w h (by decide))) (fun _ => zpc_mono (pb_fX12_prefixed_311 (zr_w (zr_c (x := 12) (lo := 12) (hi := 12) (by decide)) (by decide)) hv9) (fun _ h => zr_w h (by decide))))))))))))
theorem pb_fX12_prefixed_239 {σ : zSt} {x1 : Int32} {x3 : Int32} : zpc (fX12_prefixed_239 σ x1 x3) (fun r => zr (8) (35) r.2) := by
  unfold fX12_prefixed_239
  exact pb_fX12_prefixed_244
theorem pb_fX12_prefixed_243 {σ : zSt} {x1 : Int32} {x3 : Int32} : zpc (fX12_prefixed_243 σ x1 x3) (fun r => zr (8) (35) r.2) := by
  unfold fX12_prefixed_243
  exact pb_fX12_prefixed_244
theorem pb_fX12_prefixed_226 {σ : zSt} {x1 : Int32} {x3 : Int32} {x5 : Int32} {x6 : Int32} : zpc (fX12_prefixed_226 σ x1 x3 x5 x6) (fun r => zr (8) (35) r.2) := by
  unfold fX12_prefixed_226
  exact zpc_if (fun _ => zpc_if (fun _ => pb_fX12_prefixed_239) (fun _ => pb_fX12_prefixed_243)) (fun _ => pb_fX12_prefixed_243)
theorem pb_fX12_prefixed_220 {σ : zSt} {x1 : Int32} {x3 : Int32} {x5 : Int32} {x6 : Int32} : zpc (fX12_prefixed_220 σ x1 x3 x5 x6) (fun r => zr (8) (35) r.2) := by
  unfold fX12_prefixed_220
  exact zpc_if (fun _ => pb_fX12_prefixed_226) (fun _ => pb_fX12_prefixed_239)
theorem pb_fX12_prefixed_200 {σ : zSt} {x1 : Int32} {x3 : Int32} {x4 : Int32} {x5 : Int32} {x6 : Int32} : zpc (fX12_prefixed_200 σ x1 x3 x4 x5 x6) (fun r => zr (8) (35) r.2) := by
  unfold fX12_prefixed_200
  exact zpc_if (fun _ => zpc_if (fun _ => pb_fX12_prefixed_220) (fun _ => zpc_if (fun _ => pb_fX12_prefixed_220) (fun _ => pb_fX12_prefixed_226))) (fun _ => pb_fX12_prefixed_226)
theorem pb_fX12_prefixed {σ : zSt} {x1 : Int32} : zpc (fX12_prefixed σ x1) (fun r => zr (4) (35) r.2) := by
  unfold fX12_prefixed
  exact zpc_ck (zpc_bi zpc_tt (fun σ13 v14 _ => zpc_if (fun _ => zpc_mono (pb_fX12_prefixed_33) (fun _ h => zr_w h (by decide))) (fun _ => zpc_if (fun _ => zpc_mono (pb_fX12_prefixed_33) (fun _ h => zr_w h (by decide))) (fun _ => zpc_if (fun _ => zpc_mono (pb_fX12_prefixed_33) (fun _ h => zr_w h (by decide))) (fun _ => zpc_bi zpc_tt (fun σ15 v16 _ => zpc_if (fun _ => zpc_ck (zpc_bi zpc_tt (fun σ20 v21 _ => zpc_bi zpc_tt (fun σ22 v23 _ => zpc_ck (zpc_bv (fun σ24 _ => zpc_ck (zpc_bv (fun σ25 _ => zpc_bi zpc_tt (fun σ26 v27 _ => zpc_bi (pb_fX12_turn) (fun σ28 v29 hv29 => zpc_if (fun _ => zpc_mono (pb_fX12_prefixed_135 hv29) (fun _ h => zr_w h (by decide))) (fun _ => zpc_if (fun _ => zpc_mono (pb_fX12_prefixed_135 hv29) (fun _ h => zr_w h (by decide))) (fun _ => zpc_ck (zpc_bv (fun σ30 _ => zpc_bu zpc_tt (fun σ31 _ => zpc_mono (pb_fX12_prefixed_135 hv29) (fun _ h => zr_w h (by decide))))))))))))))))) (fun _ => zpc_bv (fun v17 _ => zpc_bv (fun v18 _ => zpc_bv (fun v19 _ => zpc_if (fun _ => zpc_if (fun _ => zpc_mono (pb_fX12_prefixed_200) (fun _ h => zr_w h (by decide))) (fun _ => zpc_if (fun _ => zpc_mono (pb_fX12_prefixed_200) (fun _ h => zr_w h (by decide))) (fun _ => zpc_if (fun _ => zpc_mono (pb_fX12_prefixed_239) (fun _ h => zr_w h (by decide))) (fun _ => zpc_mono (pb_fX12_prefixed_200) (fun _ h => zr_w h (by decide)))))) (fun _ => zpc_mono (pb_fX12_prefixed_200) (fun _ h => zr_w h (by decide)))))))))))))
theorem pb_fX12_more3_197 {σ : zSt} {s0 : Int32} : zpc (fX12_more3_197 σ s0) (fun r => zr (4) (35) r.2) := by
  unfold fX12_more3_197
  exact zpc_bi (pb_fX12_prefixed) (fun σ2 v3 hv3 => pb_fX12_more3_200 hv3)
theorem pb_fX12_more3 {σ : zSt} {x1 : Int32} {x2 : Int32} : zpc (fX12_more3 σ x1 x2) (fun r => zr (4) (35) r.2) := by
  unfold fX12_more3
  exact zpc_bv (fun v4 _ => zpc_if (fun _ => zpc_bi zpc_tt (fun σ22 v23 _ => zpc_ck (zpc_bv (fun σ24 _ => zpc_bi zpc_tt (fun σ25 v26 _ => zpc_if (fun _ => zpc_some (zr_w (zr_c (x := 10) (lo := 10) (hi := 10) (by decide)) (by decide))) (fun _ => zpc_ck (zpc_bu zpc_tt (fun σ27 _ => zpc_ck (zpc_ck (zpc_bv (fun σ28 _ => zpc_some (zr_w (zr_c (x := 17) (lo := 17) (hi := 17) (by decide)) (by decide))))))))))))) (fun _ => zpc_if (fun _ => zpc_bi zpc_tt (fun σ19 v20 _ => zpc_bu zpc_tt (fun σ21 _ => zpc_some (zr_w (zr_c (x := 7) (lo := 7) (hi := 7) (by decide)) (by decide))))) (fun _ => zpc_if (fun _ => zpc_bu zpc_tt (fun σ18 _ => zpc_some (zr_w (zr_c (x := 11) (lo := 11) (hi := 11) (by decide)) (by decide)))) (fun _ => zpc_ck (zpc_if (fun _ => zpc_if (fun _ => zpc_bi zpc_tt (fun σ16 v17 _ => zpc_mono (pb_fX12_more3_119) (fun _ h => zr_w h (by decide)))) (fun _ => zpc_bi zpc_tt (fun σ14 v15 _ => zpc_mono (pb_fX12_more3_119) (fun _ h => zr_w h (by decide))))) (fun _ => zpc_if (fun _ => zpc_bi zpc_tt (fun σ9 v10 _ => zpc_ck (zpc_bv (fun σ11 _ => zpc_ck (zpc_bu zpc_tt (fun σ12 _ => zpc_ck (zpc_ck (zpc_bv (fun σ13 _ => zpc_some (zr_w (zr_c (x := 17) (lo := 17) (hi := 17) (by decide)) (by decide))))))))))) (fun _ => zpc_if (fun _ => zpc_bi zpc_tt (fun σ5 v6 _ => zpc_bi (pb_fX12_more) (fun σ7 v8 hv8 => pb_fX12_more3_200 (zr_w hv8 (by decide))))) (fun _ => zpc_if (fun _ => pb_fX12_more3_197) (fun _ => pb_fX12_more3_197)))))))))
theorem pb_fX12_plain_160 {σ : zSt} {s0 : Int32} (qs0 : zr 4 35 s0) : zpc (fX12_plain_160 σ s0) (fun r => zr (4) (35) r.2) := by
  unfold fX12_plain_160
  exact zpc_some qs0
theorem pb_fX12_plain {σ : zSt} {x1 : Int32} : zpc (fX12_plain σ x1) (fun r => zr (4) (35) r.2) := by
  unfold fX12_plain
  exact zpc_bv (fun v1 _ => zpc_bv (fun v2 _ => zpc_if (fun _ => zpc_if (fun _ => zpc_bi (pb_fX12_singles) (fun σ3 v4 hv4 => zpc_mono (pb_fX12_plain_64 (zr_w hv4 (by decide))) (fun _ h => zr_w h (by decide)))) (fun _ => zpc_bi (pb_fX12_zero) (fun σ5 v6 hv6 => zpc_mono (pb_fX12_plain_64 hv6) (fun _ h => zr_w h (by decide))))) (fun _ => zpc_if (fun _ => zpc_if (fun _ => zpc_ck (zpc_bv (fun σ10 _ => zpc_mono (pb_fX12_plain_92) (fun _ h => zr_w h (by decide))))) (fun _ => zpc_bi zpc_tt (fun σ7 v8 _ => zpc_bu zpc_tt (fun σ9 _ => zpc_mono (pb_fX12_plain_92) (fun _ h => zr_w h (by decide)))))) (fun _ => zpc_if (fun _ => zpc_bi zpc_tt (fun σ11 v12 _ => zpc_bu zpc_tt (fun σ13 _ => zpc_if (fun _ => zpc_mono (pb_fX12_plain_139 (zr_w (zr_c (x := 7) (lo := 7) (hi := 7) (by decide)) (by decide))) (fun _ h => zr_w h (by decide))) (fun _ => zpc_mono (pb_fX12_plain_139 (zr_w (zr_c (x := 4) (lo := 4) (hi := 4) (by decide)) (by decide))) (fun _ h => zr_w h (by decide)))))) (fun _ => zpc_if (fun _ => zpc_bi (pb_fX12_more3) (fun σ14 v15 hv15 => pb_fX12_plain_160 hv15)) (fun _ => zpc_bi (pb_fX12_three) (fun σ16 v17 hv17 => pb_fX12_plain_160 (zr_w hv17 (by decide)))))))))
theorem pb_fX12_instruction {σ : zSt} : zpc (fX12_instruction σ) (fun r => zr (4) (35) r.2) := by
  unfold fX12_instruction
  exact zpc_bv (fun σ1 _ => zpc_ck (zpc_bv (fun σ2 _ => zpc_bi zpc_tt (fun σ3 v4 _ => zpc_bi (pb_fX12_plain) (fun σ5 v6 hv6 => zpc_some hv6)))))
theorem p_beats {σ : zSt} : zpc (fX12_instruction σ ) (fun r => zr 1 64 r.2) := zpc_mono pb_fX12_instruction (fun _ h => zr_w h (by decide))
