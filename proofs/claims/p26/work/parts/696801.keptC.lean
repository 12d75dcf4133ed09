section ZJN0
theorem w_fX5_putOne_88 {σ0 : zSt} {σ : zSt} (h : zKeC σ0 σ) : zpc (fX5_putOne_88 σ) (fun r => zKeC σ0 (r)) := by
  unfold fX5_putOne_88
  exact zpc_some h
theorem w_fX5_putOne {σ0 : zSt} {σ : zSt} {x1 : Int32} {x2 : Int32} (h : zKeC σ0 σ) : zpc (fX5_putOne σ x1 x2) (fun r => zKeC σ0 (r)) := by
  unfold fX5_putOne
  exact zpc_if (fun _ => zpc_bu (w_fX5_putPairHalf h) (fun σ1 hσ1 => w_fX5_putOne_88 hσ1)) (fun _ => zpc_if (fun _ => zpc_bu (w_fX5_putPairHalf h) (fun σ2 hσ2 => w_fX5_putOne_88 hσ2)) (fun _ => zpc_if (fun _ => zpc_bu (w_fX2_write h) (fun σ3 hσ3 => w_fX5_putOne_88 hσ3)) (fun _ => zpc_if (fun _ => zpc_ck (zpc_bs (zKeC.wi h (by decide)) (fun σ4 hσ4 => w_fX5_putOne_88 hσ4))) (fun _ => zpc_ck (zpc_bs (zKeC.wi h (by decide)) (fun σ5 hσ5 => w_fX5_putOne_88 hσ5))))))
theorem w_fX5_turnBeside_128 {σ0 : zSt} {σ : zSt} (h : zKeC σ0 σ) : zpc (fX5_turnBeside_128 σ) (fun r => zKeC σ0 (r.1)) := by
  unfold fX5_turnBeside_128
  exact zpc_some h
theorem w_fX5_turnBeside {σ0 : zSt} {σ : zSt} (h : zKeC σ0 σ) : zpc (fX5_turnBeside σ) (fun r => zKeC σ0 (r.1)) := by
  unfold fX5_turnBeside
  exact zpc_ck (zpc_bi (w_fX5_fetch h) (fun σ1 v2 hσ1 => zpc_ck (zpc_bs (zKeC.wi hσ1 (by decide)) (fun σ3 hσ3 => zpc_ck (zpc_bs (zKeC.wi hσ3 (by decide)) (fun σ4 hσ4 => zpc_bs (zKeC.wi hσ4 (by decide)) (fun σ5 hσ5 => zpc_bi (w_fX5_fetch hσ5) (fun σ6 v7 hσ6 => zpc_bi (w_fX2_read hσ6) (fun σ8 v9 hσ8 => zpc_if (fun _ => zpc_ck (zpc_bu (w_fX5_askBit hσ8) (fun σ14 hσ14 => zpc_some hσ14))) (fun _ => zpc_bi (w_fX5_turned hσ8) (fun σ10 v11 hσ10 => zpc_bu (w_fX2_write hσ10) (fun σ12 hσ12 => zpc_if (fun _ => w_fX5_turnBeside_128 hσ12) (fun _ => zpc_bu (w_fX5_putOne hσ12) (fun σ13 hσ13 => w_fX5_turnBeside_128 hσ13))))))))))))))
theorem w_fX5_meansPlace_97 {σ0 : zSt} {σ : zSt} {s0 : Int32} (h : zKeC σ0 σ) : zpc (fX5_meansPlace_97 σ s0) (fun r => zKeC σ0 (r.1)) := by
  unfold fX5_meansPlace_97
  exact zpc_ck (zpc_some h)
theorem w_fX5_meansPlace_86 {σ0 : zSt} {σ : zSt} {s0 : Int32} (h : zKeC σ0 σ) : zpc (fX5_meansPlace_86 σ s0) (fun r => zKeC σ0 (r.1)) := by
  unfold fX5_meansPlace_86
  exact zpc_ck (zpc_some h)
theorem w_fX5_meansPlace_85 {σ0 : zSt} {σ : zSt} (h : zKeC σ0 σ) : zpc (fX5_meansPlace_85 σ) (fun r => zKeC σ0 (r.1)) := by
  unfold fX5_meansPlace_85
  exact w_fX5_meansPlace_86 h
theorem w_fX5_meansPlace_29 {σ0 : zSt} {σ : zSt} {x0 : Int32} {x1 : Int32} {s0 : Int32} (h : zKeC σ0 σ) : zpc (fX5_meansPlace_29 σ x0 x1 s0) (fun r => zKeC σ0 (r.1)) := by
  unfold fX5_meansPlace_29
  exact zpc_if (fun _ => zpc_if (fun _ => w_fX5_meansPlace_85 h) (fun _ => zpc_if (fun _ => w_fX5_meansPlace_85 h) (fun _ => zpc_if (fun _ => w_fX5_meansPlace_85 h) (fun _ => w_fX5_meansPlace_86 h)))) (fun _ => zpc_if (fun _ => zpc_if (fun _ => w_fX5_meansPlace_97 h) (fun _ => w_fX5_meansPlace_97 h)) (fun _ => zpc_if (fun _ => zpc_ck (zpc_some h)) (fun _ => zpc_ck (zpc_some h))))
theorem w_fX5_meansPlace_14 {σ0 : zSt} {σ : zSt} {x0 : Int32} {s0 : Int32} (h : zKeC σ0 σ) : zpc (fX5_meansPlace_14 σ x0 s0) (fun r => zKeC σ0 (r.1)) := by
  unfold fX5_meansPlace_14
  exact zpc_if (fun _ => w_fX5_meansPlace_29 h) (fun _ => w_fX5_meansPlace_29 h)
theorem w_fX5_meansPlace {σ0 : zSt} {σ : zSt} {x0 : Int32} (h : zKeC σ0 σ) : zpc (fX5_meansPlace σ x0) (fun r => zKeC σ0 (r.1)) := by
  unfold fX5_meansPlace
  exact zpc_if (fun _ => w_fX5_meansPlace_14 h) (fun _ => w_fX5_meansPlace_14 h)
theorem w_fX5_takePlace_64 {σ0 : zSt} {σ : zSt} {s0 : Int32} (h : zKeC σ0 σ) : zpc (fX5_takePlace_64 σ s0) (fun r => zKeC σ0 (r.1)) := by
  unfold fX5_takePlace_64
  exact zpc_some h
theorem w_fX5_takePlace {σ0 : zSt} {σ : zSt} {x1 : Int32} (h : zKeC σ0 σ) : zpc (fX5_takePlace σ x1) (fun r => zKeC σ0 (r.1)) := by
  unfold fX5_takePlace
  exact zpc_bi (w_fX5_meansPlace h) (fun σ1 v2 hσ1 => zpc_if (fun _ => zpc_some hσ1) (fun _ => zpc_ck (zpc_bi (w_fX5_fetch hσ1) (fun σ3 v4 hσ3 => zpc_ck (zpc_bs (zKeC.wi hσ3 (by decide)) (fun σ5 hσ5 => zpc_ck (zpc_bs (zKeC.wi hσ5 (by decide)) (fun σ6 hσ6 => zpc_bs (zKeC.wi hσ6 (by decide)) (fun σ7 hσ7 => zpc_if (fun _ => w_fX5_takePlace_64 hσ7) (fun _ => w_fX5_takePlace_64 hσ7))))))))))
theorem w_fX5_one_96 {σ0 : zSt} {σ : zSt} {s0 : Int32} (h : zKeC σ0 σ) : zpc (fX5_one_96 σ s0) (fun r => zKeC σ0 (r.1)) := by
  unfold fX5_one_96
  exact zpc_some h
theorem w_fX5_one_63 {σ0 : zSt} {σ : zSt} {s0 : Int32} (h : zKeC σ0 σ) : zpc (fX5_one_63 σ s0) (fun r => zKeC σ0 (r.1)) := by
  unfold fX5_one_63
  exact zpc_some h
theorem w_fX5_one {σ0 : zSt} {σ : zSt} {x1 : Int32} (h : zKeC σ0 σ) : zpc (fX5_one σ x1) (fun r => zKeC σ0 (r.1)) := by
  unfold fX5_one
  exact zpc_if (fun _ => zpc_if (fun _ => zpc_ck (w_fX5_one_63 h)) (fun _ => zpc_ck (w_fX5_one_63 h))) (fun _ => zpc_if (fun _ => zpc_if (fun _ => zpc_ck (w_fX5_one_96 h)) (fun _ => zpc_ck (w_fX5_one_96 h))) (fun _ => zpc_if (fun _ => zpc_bi (w_fX2_read h) (fun σ1 v2 hσ1 => zpc_some hσ1)) (fun _ => zpc_if (fun _ => zpc_ck (zpc_some h)) (fun _ => zpc_ck (zpc_some h)))))
theorem w_fX5_turns_63 {σ0 : zSt} {σ : zSt} {s0 : Int32} (h : zKeC σ0 σ) : zpc (fX5_turns_63 σ s0) (fun r => zKeC σ0 (r.1)) := by
  unfold fX5_turns_63
  exact zpc_some h
theorem w_fX5_turns_47 {σ0 : zSt} {σ : zSt} {x2 : Int32} {s0 : Int32} {s1 : Int32} {s2 : Int32} (h : zKeC σ0 σ) : zpc (fX5_turns_47 σ x2 s0 s1 s2) (fun r => zKeC σ0 (r.1)) := by
  unfold fX5_turns_47
  exact zpc_bu (w_fX5_askBit h) (fun σ1 hσ1 => zpc_if (fun _ => w_fX5_turns_63 hσ1) (fun _ => w_fX5_turns_63 hσ1))
theorem w_fX5_turns_88 {σ0 : zSt} {σ : zSt} {s0 : Int32} (h : zKeC σ0 σ) : zpc (fX5_turns_88 σ s0) (fun r => zKeC σ0 (r.1)) := by
  unfold fX5_turns_88
  exact zpc_some h
theorem w_fX5_turns {σ0 : zSt} {σ : zSt} {x1 : Int32} (h : zKeC σ0 σ) : zpc (fX5_turns σ x1) (fun r => zKeC σ0 (r.1)) := by
  unfold fX5_turns
  exact zpc_bv (fun v2 _ => zpc_bi (w_fX5_one h) (fun σ3 v4 hσ3 => zpc_if (fun _ => zpc_if (fun _ => zpc_ck (w_fX5_turns_47 hσ3)) (fun _ => w_fX5_turns_47 hσ3)) (fun _ => zpc_bi (w_fX5_turned hσ3) (fun σ5 v6 hσ5 => zpc_bu (w_fX5_putOne hσ5) (fun σ7 hσ7 => zpc_if (fun _ => w_fX5_turns_88 hσ7) (fun _ => w_fX5_turns_88 hσ7))))))
theorem w_fX5_putPairAt {σ0 : zSt} {σ : zSt} {x1 : Int32} {x2 : Int32} (h : zKeC σ0 σ) : zpc (fX5_putPairAt σ x1 x2) (fun r => zKeC σ0 (r)) := by
  unfold fX5_putPairAt
  exact zpc_ck (zpc_bs (zKeC.wi h (by decide)) (fun σ1 hσ1 => zpc_ck (zpc_bs (zKeC.wi hσ1 (by decide)) (fun σ2 hσ2 => zpc_some hσ2))))
theorem w_fX5_tellOfPort_34 {σ0 : zSt} {σ : zSt} {x2 : Int32} {s0 : Int32} {s1 : Int32} {s2 : Int32} (h : zKeC σ0 σ) : zpc (fX5_tellOfPort_34 σ x2 s0 s1 s2) (fun r => zKeC σ0 (r)) := by
  unfold fX5_tellOfPort_34
  exact zpc_ck (zpc_bi (w_fX5_parity h) (fun σ1 v2 hσ1 => zpc_ck (zpc_bs (zKeC.wi hσ1 (by decide)) (fun σ3 hσ3 => zpc_some hσ3))))
theorem w_fX5_tellOfPort {σ0 : zSt} {σ : zSt} {x1 : Int32} {x2 : Int32} (h : zKeC σ0 σ) : zpc (fX5_tellOfPort σ x1 x2) (fun r => zKeC σ0 (r)) := by
  unfold fX5_tellOfPort
  exact zpc_ck (zpc_bi (w_fX5_by h) (fun σ4 v5 hσ4 => zpc_if (fun _ => w_fX5_tellOfPort_34 hσ4) (fun _ => w_fX5_tellOfPort_34 hσ4)))
theorem w_fX5_giveOne_105 {σ0 : zSt} {σ : zSt} {s0 : Int32} (h : zKeC σ0 σ) : zpc (fX5_giveOne_105 σ s0) (fun r => zKeC σ0 (r.1)) := by
  unfold fX5_giveOne_105
  exact zpc_ck (zpc_some h)
theorem w_fX5_giveOne {σ0 : zSt} {σ : zSt} {x1 : Int32} (h : zKeC σ0 σ) : zpc (fX5_giveOne σ x1) (fun r => zKeC σ0 (r.1)) := by
  unfold fX5_giveOne
  exact zpc_bi (w_fX5_pairAt h) (fun σ1 v2 hσ1 => zpc_bi (w_fX2_read hσ1) (fun σ3 v4 hσ3 => zpc_ck (zpc_ck (zpc_bs (zKeC.wi hσ3 (by decide)) (fun σ5 hσ5 => zpc_ck (zpc_bu (w_fX4_write hσ5) (fun σ6 hσ6 => zpc_bi (w_fX5_pairAt hσ6) (fun σ7 v8 hσ7 => zpc_bu (w_fX5_putPairAt hσ7) (fun σ9 hσ9 => zpc_bi (w_fX5_pairAt hσ9) (fun σ10 v11 hσ10 => zpc_ck (zpc_bs (zKeC.wi hσ10 (by decide)) (fun σ12 hσ12 => zpc_ck (zpc_bu (w_fX5_tellOfPort hσ12) (fun σ13 hσ13 => zpc_ck (zpc_if (fun _ => w_fX5_giveOne_105 hσ13) (fun _ => w_fX5_giveOne_105 hσ13))))))))))))))))
theorem w_fX5_takeOne_110 {σ0 : zSt} {σ : zSt} {s0 : Int32} (h : zKeC σ0 σ) : zpc (fX5_takeOne_110 σ s0) (fun r => zKeC σ0 (r.1)) := by
  unfold fX5_takeOne_110
  exact zpc_ck (zpc_some h)
theorem w_fX5_takeOne {σ0 : zSt} {σ : zSt} {x1 : Int32} (h : zKeC σ0 σ) : zpc (fX5_takeOne σ x1) (fun r => zKeC σ0 (r.1)) := by
  unfold fX5_takeOne
  exact zpc_bi (w_fX5_pairAt h) (fun σ1 v2 hσ1 => zpc_ck (zpc_bs (zKeC.wi hσ1 (by decide)) (fun σ3 hσ3 => zpc_ck (zpc_bi (w_fX4_read hσ3) (fun σ4 v5 hσ4 => zpc_ck (zpc_ck (zpc_bs (zKeC.wi hσ4 (by decide)) (fun σ6 hσ6 => zpc_bi (w_fX5_pairAt hσ6) (fun σ7 v8 hσ7 => zpc_bu (w_fX2_write hσ7) (fun σ9 hσ9 => zpc_bi (w_fX5_pairAt hσ9) (fun σ10 v11 hσ10 => zpc_bu (w_fX5_putPairAt hσ10) (fun σ12 hσ12 => zpc_ck (zpc_bu (w_fX5_tellOfPort hσ12) (fun σ13 hσ13 => zpc_ck (zpc_if (fun _ => w_fX5_takeOne_110 hσ13) (fun _ => w_fX5_takeOne_110 hσ13))))))))))))))))
theorem w_fX5_compareOne_184 {σ0 : zSt} {σ : zSt} {s0 : Int32} (h : zKeC σ0 σ) : zpc (fX5_compareOne_184 σ s0) (fun r => zKeC σ0 (r.1)) := by
  unfold fX5_compareOne_184
  exact zpc_ck (zpc_some h)
theorem w_fX5_compareOne_183 {σ0 : zSt} {σ : zSt} (h : zKeC σ0 σ) : zpc (fX5_compareOne_183 σ) (fun r => zKeC σ0 (r.1)) := by
  unfold fX5_compareOne_183
  exact w_fX5_compareOne_184 h
theorem w_fX5_compareOne_166 {σ0 : zSt} {σ : zSt} {x3 : Int32} {x5 : Int32} {s0 : Int32} {s1 : Int32} {s2 : Int32} (h : zKeC σ0 σ) : zpc (fX5_compareOne_166 σ x3 x5 s0 s1 s2) (fun r => zKeC σ0 (r.1)) := by
  unfold fX5_compareOne_166
  exact zpc_ck (zpc_bs (zKeC.wi h (by decide)) (fun σ1 hσ1 => zpc_if (fun _ => w_fX5_compareOne_183 hσ1) (fun _ => zpc_if (fun _ => w_fX5_compareOne_183 hσ1) (fun _ => w_fX5_compareOne_184 hσ1))))
theorem w_fX5_compareOne_139 {σ0 : zSt} {σ : zSt} {x3 : Int32} {x4 : Int32} {x5 : Int32} {x6 : Int32} {s0 : Int32} {s1 : Int32} {s2 : Int32} (h : zKeC σ0 σ) : zpc (fX5_compareOne_139 σ x3 x4 x5 x6 s0 s1 s2) (fun r => zKeC σ0 (r.1)) := by
  unfold fX5_compareOne_139
  exact zpc_if (fun _ => w_fX5_compareOne_166 h) (fun _ => w_fX5_compareOne_166 h)
theorem w_fX5_compareOne_100 {σ0 : zSt} {σ : zSt} {x3 : Int32} {x4 : Int32} {s0 : Int32} (h : zKeC σ0 σ) : zpc (fX5_compareOne_100 σ x3 x4 s0) (fun r => zKeC σ0 (r.1)) := by
  unfold fX5_compareOne_100
  exact zpc_bv (fun v2 _ => zpc_ck (zpc_if (fun _ => w_fX5_compareOne_139 h) (fun _ => w_fX5_compareOne_139 h)))
theorem w_fX5_compareOne {σ0 : zSt} {σ : zSt} {x1 : Int32} (h : zKeC σ0 σ) : zpc (fX5_compareOne σ x1) (fun r => zKeC σ0 (r.1)) := by
  unfold fX5_compareOne
  exact zpc_bi (w_fX5_pairAt h) (fun σ3 v4 hσ3 => zpc_bi (w_fX2_read hσ3) (fun σ5 v6 hσ5 => zpc_ck (zpc_bv (fun v7 _ => zpc_ck (zpc_bv (fun v8 _ => zpc_bi (w_fX5_pairAt hσ5) (fun σ9 v10 hσ9 => zpc_bu (w_fX5_putPairAt hσ9) (fun σ11 hσ11 => zpc_bi (w_fX5_pairAt hσ11) (fun σ12 v13 hσ12 => zpc_bu (w_fX5_putPairAt hσ12) (fun σ14 hσ14 => zpc_ck (zpc_ck (zpc_bs (zKeC.wi hσ14 (by decide)) (fun σ15 hσ15 => zpc_bi (w_fX5_pairAt hσ15) (fun σ16 v17 hσ16 => zpc_if (fun _ => w_fX5_compareOne_100 hσ16) (fun _ => w_fX5_compareOne_100 hσ16)))))))))))))))
theorem w_fX5_copyOne_126 {σ0 : zSt} {σ : zSt} {x3 : Int32} {s0 : Int32} {s1 : Int32} {s2 : Int32} (h : zKeC σ0 σ) : zpc (fX5_copyOne_126 σ x3 s0 s1 s2) (fun r => zKeC σ0 (r.1)) := by
  unfold fX5_copyOne_126
  exact zpc_ck (zpc_bs (zKeC.wi h (by decide)) (fun σ1 hσ1 => zpc_ck (zpc_some hσ1)))
theorem w_fX5_copyOne_78 {σ0 : zSt} {σ : zSt} {x2 : Int32} {s0 : Int32} (h : zKeC σ0 σ) : zpc (fX5_copyOne_78 σ x2 s0) (fun r => zKeC σ0 (r.1)) := by
  unfold fX5_copyOne_78
  exact zpc_ck (zpc_bv (fun v2 _ => zpc_ck (zpc_if (fun _ => w_fX5_copyOne_126 h) (fun _ => w_fX5_copyOne_126 h))))
theorem w_fX5_copyOne {σ0 : zSt} {σ : zSt} {x1 : Int32} (h : zKeC σ0 σ) : zpc (fX5_copyOne σ x1) (fun r => zKeC σ0 (r.1)) := by
  unfold fX5_copyOne
  exact zpc_bi (w_fX5_pairAt h) (fun σ3 v4 hσ3 => zpc_bi (w_fX2_read hσ3) (fun σ5 v6 hσ5 => zpc_bi (w_fX5_pairAt hσ5) (fun σ7 v8 hσ7 => zpc_bu (w_fX2_write hσ7) (fun σ9 hσ9 => zpc_bi (w_fX5_pairAt hσ9) (fun σ10 v11 hσ10 => zpc_bu (w_fX5_putPairAt hσ10) (fun σ12 hσ12 => zpc_bi (w_fX5_pairAt hσ12) (fun σ13 v14 hσ13 => zpc_bu (w_fX5_putPairAt hσ13) (fun σ15 hσ15 => zpc_bi (w_fX5_pairAt hσ15) (fun σ16 v17 hσ16 => zpc_bu (w_fX5_putPairAt hσ16) (fun σ18 hσ18 => zpc_bi (w_fX5_pairAt hσ18) (fun σ19 v20 hσ19 => zpc_if (fun _ => w_fX5_copyOne_78 hσ19) (fun _ => w_fX5_copyOne_78 hσ19))))))))))))
theorem w_fX5_block_88 {σ0 : zSt} {σ : zSt} (h : zKeC σ0 σ) : zpc (fX5_block_88 σ) (fun r => zKeC σ0 (r.1)) := by
  unfold fX5_block_88
  exact zpc_some h
theorem w_fX5_block_135 {σ0 : zSt} {σ : zSt} (h : zKeC σ0 σ) : zpc (fX5_block_135 σ) (fun r => zKeC σ0 (r.1)) := by
  unfold fX5_block_135
  exact zpc_some h
theorem w_fX5_block_77 {σ0 : zSt} {σ : zSt} {x1 : Int32} {x3 : Int32} (h : zKeC σ0 σ) : zpc (fX5_block_77 σ x1 x3) (fun r => zKeC σ0 (r.1)) := by
  unfold fX5_block_77
  exact zpc_if (fun _ => w_fX5_block_88 h) (fun _ => zpc_if (fun _ => w_fX5_block_88 h) (fun _ => zpc_ck (zpc_ck (zpc_bs (zKeC.wi h (by decide)) (fun σ1 hσ1 => zpc_if (fun _ => zpc_ck (zpc_ck (zpc_bs (zKeC.wi hσ1 (by decide)) (fun σ2 hσ2 => w_fX5_block_135 hσ2)))) (fun _ => w_fX5_block_135 hσ1))))))
theorem w_fX5_block_12 {σ0 : zSt} {σ : zSt} {x1 : Int32} {s0 : Int32} (h : zKeC σ0 σ) : zpc (fX5_block_12 σ x1 s0) (fun r => zKeC σ0 (r.1)) := by
  unfold fX5_block_12
  exact zpc_if (fun _ => zpc_bi (w_fX5_copyOne h) (fun σ3 v4 hσ3 => w_fX5_block_77 hσ3)) (fun _ => zpc_if (fun _ => zpc_bi (w_fX5_compareOne h) (fun σ5 v6 hσ5 => w_fX5_block_77 hσ5)) (fun _ => zpc_if (fun _ => zpc_bi (w_fX5_takeOne h) (fun σ7 v8 hσ7 => w_fX5_block_77 hσ7)) (fun _ => zpc_bi (w_fX5_giveOne h) (fun σ9 v10 hσ9 => w_fX5_block_77 hσ9))))
theorem w_fX5_block {σ0 : zSt} {σ : zSt} {x1 : Int32} (h : zKeC σ0 σ) : zpc (fX5_block σ x1) (fun r => zKeC σ0 (r.1)) := by
  unfold fX5_block
  exact zpc_if (fun _ => w_fX5_block_12 h) (fun _ => w_fX5_block_12 h)
theorem w_fX5_turnDigits_102 {σ0 : zSt} {σ : zSt} {s0 : Int32} {s1 : Int32} {s2 : Int32} (h : zKeC σ0 σ) : zpc (fX5_turnDigits_102 σ s0 s1 s2) (fun r => zKeC σ0 (r)) := by
  unfold fX5_turnDigits_102
  exact zpc_ck (zpc_bs (zKeC.wi h (by decide)) (fun σ1 hσ1 => zpc_ck (zpc_ck (zpc_bi (w_fX5_by hσ1) (fun σ2 v3 hσ2 => zpc_ck (zpc_bi (w_fX5_parity hσ2) (fun σ4 v5 hσ4 => zpc_ck (zpc_bs (zKeC.wi hσ4 (by decide)) (fun σ6 hσ6 => zpc_some hσ6)))))))))
theorem w_fX5_turnDigits_70 {σ0 : zSt} {σ : zSt} {x1 : Int32} {x3 : Int32} {s0 : Int32} {s1 : Int32} (h : zKeC σ0 σ) : zpc (fX5_turnDigits_70 σ x1 x3 s0 s1) (fun r => zKeC σ0 (r)) := by
  unfold fX5_turnDigits_70
  exact zpc_bu (w_fX2_write h) (fun σ7 hσ7 => zpc_ck (zpc_if (fun _ => w_fX5_turnDigits_102 hσ7) (fun _ => w_fX5_turnDigits_102 hσ7)))
theorem w_fX5_turnDigits {σ0 : zSt} {σ : zSt} {x1 : Int32} (h : zKeC σ0 σ) : zpc (fX5_turnDigits σ x1) (fun r => zKeC σ0 (r)) := by
  unfold fX5_turnDigits
  exact zpc_bi (w_fX5_pairAt h) (fun σ8 v9 hσ8 => zpc_bi (w_fX2_read hσ8) (fun σ10 v11 hσ10 => zpc_ck (zpc_bv (fun v12 _ => zpc_ck (zpc_bs (zKeC.wi hσ10 (by decide)) (fun σ13 hσ13 => zpc_if (fun _ => w_fX5_turnDigits_70 hσ13) (fun _ => w_fX5_turnDigits_70 hσ13)))))))
theorem w_fX5_moreOfA_139 {σ0 : zSt} {σ : zSt} {s0 : Int32} {s1 : Int32} {s2 : Int32} (h : zKeC σ0 σ) : zpc (fX5_moreOfA_139 σ s0 s1 s2) (fun r => zKeC σ0 (r.1)) := by
  unfold fX5_moreOfA_139
  exact zpc_ck (zpc_bs (zKeC.wi h (by decide)) (fun σ1 hσ1 => zpc_some hσ1))
theorem w_fX5_moreOfA_99 {σ0 : zSt} {σ : zSt} {s0 : Int32} {s1 : Int32} (h : zKeC σ0 σ) : zpc (fX5_moreOfA_99 σ s0 s1) (fun r => zKeC σ0 (r.1)) := by
  unfold fX5_moreOfA_99
  exact zpc_ck (zpc_bs (zKeC.wi h (by decide)) (fun σ2 hσ2 => zpc_ck (zpc_ck (zpc_bi (w_fX5_by hσ2) (fun σ3 v4 hσ3 => zpc_ck (zpc_if (fun _ => w_fX5_moreOfA_139 hσ3) (fun _ => w_fX5_moreOfA_139 hσ3)))))))
theorem w_fX5_moreOfA_72 {σ0 : zSt} {σ : zSt} {x1 : Int32} (h : zKeC σ0 σ) : zpc (fX5_moreOfA_72 σ x1) (fun r => zKeC σ0 (r.1)) := by
  unfold fX5_moreOfA_72
  exact zpc_if (fun _ => zpc_ck (w_fX5_moreOfA_99 h)) (fun _ => zpc_ck (w_fX5_moreOfA_99 h))
theorem w_fX5_moreOfA_155 {σ0 : zSt} {σ : zSt} {s0 : Int32} (h : zKeC σ0 σ) : zpc (fX5_moreOfA_155 σ s0) (fun r => zKeC σ0 (r.1)) := by
  unfold fX5_moreOfA_155
  exact zpc_bu (w_fX5_turnDigits h) (fun σ5 hσ5 => zpc_some hσ5)
theorem w_fX5_moreOfA_144 {σ0 : zSt} {σ : zSt} {x1 : Int32} (h : zKeC σ0 σ) : zpc (fX5_moreOfA_144 σ x1) (fun r => zKeC σ0 (r.1)) := by
  unfold fX5_moreOfA_144
  exact zpc_if (fun _ => w_fX5_moreOfA_155 h) (fun _ => w_fX5_moreOfA_155 h)
theorem w_fX5_moreOfA {σ0 : zSt} {σ : zSt} {x1 : Int32} (h : zKeC σ0 σ) : zpc (fX5_moreOfA σ x1) (fun r => zKeC σ0 (r.1)) := by
  unfold fX5_moreOfA
  exact zpc_if (fun _ => zpc_ck (zpc_ck (zpc_bs (zKeC.wi h (by decide)) (fun σ6 hσ6 => zpc_some hσ6)))) (fun _ => zpc_if (fun _ => zpc_ck (zpc_ck (zpc_bs (zKeC.wi h (by decide)) (fun σ7 hσ7 => zpc_some hσ7)))) (fun _ => zpc_if (fun _ => w_fX5_moreOfA_72 h) (fun _ => zpc_if (fun _ => w_fX5_moreOfA_72 h) (fun _ => zpc_if (fun _ => w_fX5_moreOfA_144 h) (fun _ => zpc_if (fun _ => w_fX5_moreOfA_144 h) (fun _ => zpc_some h))))))
theorem w_fX5_pop {σ0 : zSt} {σ : zSt} (h : zKeC σ0 σ) : zpc (fX5_pop σ) (fun r => zKeC σ0 (r.1)) := by
  unfold fX5_pop
  exact zpc_ck (zpc_bi (w_fX2_read h) (fun σ1 v2 hσ1 => zpc_ck (zpc_bi (w_fX2_read hσ1) (fun σ3 v4 hσ3 => zpc_bv (fun v5 _ => zpc_ck (zpc_ck (zpc_bs (zKeC.wi hσ3 (by decide)) (fun σ6 hσ6 => zpc_some hσ6))))))))
theorem w_fX5_difference_72 {σ0 : zSt} {σ : zSt} {x5 : Int32} {s0 : Int32} {s1 : Int32} {s2 : Int32} (h : zKeC σ0 σ) : zpc (fX5_difference_72 σ x5 s0 s1 s2) (fun r => zKeC σ0 (r.1)) := by
  unfold fX5_difference_72
  exact zpc_ck (zpc_bs (zKeC.wi h (by decide)) (fun σ1 hσ1 => zpc_some hσ1))
theorem w_fX5_difference_59 {σ0 : zSt} {σ : zSt} {x4 : Int32} {x5 : Int32} {s0 : Int32} {s1 : Int32} {s2 : Int32} (h : zKeC σ0 σ) : zpc (fX5_difference_59 σ x4 x5 s0 s1 s2) (fun r => zKeC σ0 (r.1)) := by
  unfold fX5_difference_59
  exact zpc_if (fun _ => w_fX5_difference_72 h) (fun _ => w_fX5_difference_72 h)
theorem w_fX5_difference {σ0 : zSt} {σ : zSt} {x1 : Int32} {x2 : Int32} {x3 : Int32} (h : zKeC σ0 σ) : zpc (fX5_difference σ x1 x2 x3) (fun r => zKeC σ0 (r.1)) := by
  unfold fX5_difference
  exact zpc_bv (fun v2 _ => zpc_bv (fun v3 _ => zpc_bv (fun v4 _ => zpc_bi (w_fX5_by h) (fun σ5 v6 hσ5 => zpc_if (fun _ => w_fX5_difference_59 hσ5) (fun _ => w_fX5_difference_59 hσ5)))))
theorem w_fX5_fetchWord {σ0 : zSt} {σ : zSt} (h : zKeC σ0 σ) : zpc (fX5_fetchWord σ) (fun r => zKeC σ0 (r.1)) := by
  unfold fX5_fetchWord
  exact zpc_ck (zpc_bi (w_fX2_read h) (fun σ1 v2 hσ1 => zpc_ck (zpc_bi (w_fX2_read hσ1) (fun σ3 v4 hσ3 => zpc_bv (fun v5 _ => zpc_ck (zpc_ck (zpc_bs (zKeC.wi hσ3 (by decide)) (fun σ6 hσ6 => zpc_some hσ6))))))))
theorem w_fX5_hl_27 {σ0 : zSt} {σ : zSt} {s0 : Int32} (h : zKeC σ0 σ) : zpc (fX5_hl_27 σ s0) (fun r => zKeC σ0 (r.1)) := by
  unfold fX5_hl_27
  exact zpc_some h
theorem w_fX5_hl {σ0 : zSt} {σ : zSt} (h : zKeC σ0 σ) : zpc (fX5_hl σ) (fun r => zKeC σ0 (r.1)) := by
  unfold fX5_hl
  exact zpc_if (fun _ => zpc_bi (w_fX5_pairAt h) (fun σ1 v2 hσ1 => w_fX5_hl_27 hσ1)) (fun _ => zpc_ck (w_fX5_hl_27 h))
theorem w_fX5_pair {σ0 : zSt} {σ : zSt} {x1 : Int32} (h : zKeC σ0 σ) : zpc (fX5_pair σ x1) (fun r => zKeC σ0 (r.1)) := by
  unfold fX5_pair
  exact zpc_if (fun _ => zpc_bi (w_fX5_pairAt h) (fun σ1 v2 hσ1 => zpc_some hσ1)) (fun _ => zpc_if (fun _ => zpc_bi (w_fX5_pairAt h) (fun σ3 v4 hσ3 => zpc_some hσ3)) (fun _ => zpc_if (fun _ => zpc_bi (w_fX5_hl h) (fun σ5 v6 hσ5 => zpc_some hσ5)) (fun _ => zpc_ck (zpc_some h))))
theorem w_fX5_writeWord {σ0 : zSt} {σ : zSt} {x1 : Int32} {x2 : Int32} (h : zKeC σ0 σ) : zpc (fX5_writeWord σ x1 x2) (fun r => zKeC σ0 (r)) := by
  unfold fX5_writeWord
  exact zpc_bu (w_fX2_write h) (fun σ1 hσ1 => zpc_bu (w_fX2_write hσ1) (fun σ2 hσ2 => zpc_some hσ2))
theorem w_fX5_putHl_32 {σ0 : zSt} {σ : zSt} (h : zKeC σ0 σ) : zpc (fX5_putHl_32 σ) (fun r => zKeC σ0 (r)) := by
  unfold fX5_putHl_32
  exact zpc_some h
theorem w_fX5_putHl {σ0 : zSt} {σ : zSt} {x1 : Int32} (h : zKeC σ0 σ) : zpc (fX5_putHl σ x1) (fun r => zKeC σ0 (r)) := by
  unfold fX5_putHl
  exact zpc_if (fun _ => zpc_bu (w_fX5_putPairAt h) (fun σ2 hσ2 => w_fX5_putHl_32 hσ2)) (fun _ => zpc_ck (zpc_bs (zKeC.wi h (by decide)) (fun σ1 hσ1 => w_fX5_putHl_32 hσ1)))
theorem w_fX5_putPair_65 {σ0 : zSt} {σ : zSt} (h : zKeC σ0 σ) : zpc (fX5_putPair_65 σ) (fun r => zKeC σ0 (r)) := by
  unfold fX5_putPair_65
  exact zpc_some h
theorem w_fX5_putPair {σ0 : zSt} {σ : zSt} {x1 : Int32} {x2 : Int32} (h : zKeC σ0 σ) : zpc (fX5_putPair σ x1 x2) (fun r => zKeC σ0 (r)) := by
  unfold fX5_putPair
  exact zpc_if (fun _ => zpc_bu (w_fX5_putPairAt h) (fun σ1 hσ1 => w_fX5_putPair_65 hσ1)) (fun _ => zpc_if (fun _ => zpc_bu (w_fX5_putPairAt h) (fun σ2 hσ2 => w_fX5_putPair_65 hσ2)) (fun _ => zpc_if (fun _ => zpc_bu (w_fX5_putHl h) (fun σ3 hσ3 => w_fX5_putPair_65 hσ3)) (fun _ => zpc_ck (zpc_bs (zKeC.wi h (by decide)) (fun σ4 hσ4 => w_fX5_putPair_65 hσ4)))))
theorem w_fX5_farPair_51 {σ0 : zSt} {σ : zSt} (h : zKeC σ0 σ) : zpc (fX5_farPair_51 σ) (fun r => zKeC σ0 (r.1)) := by
  unfold fX5_farPair_51
  exact zpc_some h
theorem w_fX5_farPair {σ0 : zSt} {σ : zSt} {x1 : Int32} (h : zKeC σ0 σ) : zpc (fX5_farPair σ x1) (fun r => zKeC σ0 (r.1)) := by
  unfold fX5_farPair
  exact zpc_bi (w_fX5_fetchWord h) (fun σ1 v2 hσ1 => zpc_ck (zpc_bs (zKeC.wi hσ1 (by decide)) (fun σ3 hσ3 => zpc_if (fun _ => zpc_bi (w_fX5_pair hσ3) (fun σ7 v8 hσ7 => zpc_bu (w_fX5_writeWord hσ7) (fun σ9 hσ9 => w_fX5_farPair_51 hσ9))) (fun _ => zpc_bi (w_fX5_readWord hσ3) (fun σ4 v5 hσ4 => zpc_bu (w_fX5_putPair hσ4) (fun σ6 hσ6 => w_fX5_farPair_51 hσ6))))))
theorem w_fX5_putWide_44 {σ0 : zSt} {σ : zSt} {x1 : Int32} {x2 : Int32} {x3 : Int32} {s0 : Int32} {s1 : Int32} {s2 : Int32} (h : zKeC σ0 σ) : zpc (fX5_putWide_44 σ x1 x2 x3 s0 s1 s2) (fun r => zKeC σ0 (r)) := by
  unfold fX5_putWide_44
  exact zpc_ck (zpc_bs (zKeC.wi h (by decide)) (fun σ1 hσ1 => zpc_some hσ1))
theorem w_fX5_putWide {σ0 : zSt} {σ : zSt} {x1 : Int32} {x2 : Int32} {x3 : Int32} (h : zKeC σ0 σ) : zpc (fX5_putWide σ x1 x2 x3) (fun r => zKeC σ0 (r)) := by
  unfold fX5_putWide
  exact zpc_ck (zpc_bs (zKeC.wi h (by decide)) (fun σ2 hσ2 => zpc_bu (w_fX5_putHl hσ2) (fun σ3 hσ3 => zpc_if (fun _ => w_fX5_putWide_44 hσ3) (fun _ => w_fX5_putWide_44 hσ3))))
theorem w_fX5_takePair_63 {σ0 : zSt} {σ : zSt} {s0 : Int32} {s1 : Int32} {s2 : Int32} (h : zKeC σ0 σ) : zpc (fX5_takePair_63 σ s0 s1 s2) (fun r => zKeC σ0 (r.1)) := by
  unfold fX5_takePair_63
  exact zpc_ck (zpc_bs (zKeC.wi h (by decide)) (fun σ1 hσ1 => zpc_some hσ1))
theorem w_fX5_takePair {σ0 : zSt} {σ : zSt} {x1 : Int32} (h : zKeC σ0 σ) : zpc (fX5_takePair σ x1) (fun r => zKeC σ0 (r.1)) := by
  unfold fX5_takePair
  exact zpc_bi (w_fX5_hl h) (fun σ2 v3 hσ2 => zpc_bi (w_fX5_pair hσ2) (fun σ4 v5 hσ4 => zpc_ck (zpc_bv (fun v6 _ => zpc_bu (w_fX5_putWide hσ4) (fun σ7 hσ7 => zpc_bv (fun v8 _ => zpc_ck (zpc_if (fun _ => w_fX5_takePair_63 hσ7) (fun _ => w_fX5_takePair_63 hσ7))))))))
theorem w_fX5_addPairAndCarry_65 {σ0 : zSt} {σ : zSt} {s0 : Int32} {s1 : Int32} {s2 : Int32} (h : zKeC σ0 σ) : zpc (fX5_addPairAndCarry_65 σ s0 s1 s2) (fun r => zKeC σ0 (r.1)) := by
  unfold fX5_addPairAndCarry_65
  exact zpc_ck (zpc_bs (zKeC.wi h (by decide)) (fun σ1 hσ1 => zpc_some hσ1))
theorem w_fX5_addPairAndCarry {σ0 : zSt} {σ : zSt} {x1 : Int32} (h : zKeC σ0 σ) : zpc (fX5_addPairAndCarry σ x1) (fun r => zKeC σ0 (r.1)) := by
  unfold fX5_addPairAndCarry
  exact zpc_bi (w_fX5_hl h) (fun σ2 v3 hσ2 => zpc_bi (w_fX5_pair hσ2) (fun σ4 v5 hσ4 => zpc_ck (zpc_bv (fun v6 _ => zpc_bu (w_fX5_putWide hσ4) (fun σ7 hσ7 => zpc_bv (fun v8 _ => zpc_ck (zpc_if (fun _ => w_fX5_addPairAndCarry_65 hσ7) (fun _ => w_fX5_addPairAndCarry_65 hσ7))))))))
theorem w_fX5_takeFromPort_26 {σ0 : zSt} {σ : zSt} {x2 : Int32} (h : zKeC σ0 σ) : zpc (fX5_takeFromPort_26 σ x2) (fun r => zKeC σ0 (r)) := by
  unfold fX5_takeFromPort_26
  exact zpc_ck (zpc_bi (w_fX5_by h) (fun σ1 v2 hσ1 => zpc_bi (w_fX5_parity hσ1) (fun σ3 v4 hσ3 => zpc_ck (zpc_bs (zKeC.wi hσ3 (by decide)) (fun σ5 hσ5 => zpc_some hσ5)))))
theorem w_fX5_takeFromPort {σ0 : zSt} {σ : zSt} {x1 : Int32} (h : zKeC σ0 σ) : zpc (fX5_takeFromPort σ x1) (fun r => zKeC σ0 (r)) := by
  unfold fX5_takeFromPort
  exact zpc_ck (zpc_bi (w_fX4_read h) (fun σ6 v7 hσ6 => zpc_if (fun _ => w_fX5_takeFromPort_26 hσ6) (fun _ => zpc_bu (w_fX5_putOne hσ6) (fun σ8 hσ8 => w_fX5_takeFromPort_26 hσ8))))
theorem w_fX5_behindEd_160 {σ0 : zSt} {σ : zSt} {s0 : Int32} (h : zKeC σ0 σ) : zpc (fX5_behindEd_160 σ s0) (fun r => zKeC σ0 (r.1)) := by
  unfold fX5_behindEd_160
  exact zpc_some h
theorem w_fX5_behindEd_131 {σ0 : zSt} {σ : zSt} {s0 : Int32} {s1 : Int32} (h : zKeC σ0 σ) : zpc (fX5_behindEd_131 σ s0 s1) (fun r => zKeC σ0 (r.1)) := by
  unfold fX5_behindEd_131
  exact zpc_bu (w_fX4_write h) (fun σ1 hσ1 => zpc_some hσ1)
theorem w_fX5_behindEd {σ0 : zSt} {σ : zSt} {x1 : Int32} (h : zKeC σ0 σ) : zpc (fX5_behindEd σ x1) (fun r => zKeC σ0 (r.1)) := by
  unfold fX5_behindEd
  exact zpc_if (fun _ => zpc_bv (fun v2 _ => zpc_if (fun _ => zpc_bi (w_fX5_pairAt h) (fun σ3 v4 hσ3 => zpc_ck (zpc_bs (zKeC.wi hσ3 (by decide)) (fun σ5 hσ5 => zpc_bu (w_fX5_takeFromPort hσ5) (fun σ6 hσ6 => zpc_some hσ6))))) (fun _ => zpc_if (fun _ => zpc_bi (w_fX5_pairAt h) (fun σ7 v8 hσ7 => zpc_ck (zpc_bs (zKeC.wi hσ7 (by decide)) (fun σ9 hσ9 => zpc_ck (zpc_if (fun _ => w_fX5_behindEd_131 hσ9) (fun _ => zpc_bi (w_fX5_one hσ9) (fun σ10 v11 hσ10 => w_fX5_behindEd_131 hσ10))))))) (fun _ => zpc_if (fun _ => zpc_if (fun _ => zpc_bi (w_fX5_takePair h) (fun σ14 v15 hσ14 => w_fX5_behindEd_160 hσ14)) (fun _ => zpc_bi (w_fX5_addPairAndCarry h) (fun σ12 v13 hσ12 => w_fX5_behindEd_160 hσ12))) (fun _ => zpc_if (fun _ => zpc_bi (w_fX5_farPair h) (fun σ16 v17 hσ16 => zpc_some hσ16)) (fun _ => zpc_if (fun _ => zpc_ck (zpc_bi (w_fX5_difference h) (fun σ18 v19 hσ18 => zpc_ck (zpc_bs (zKeC.wi hσ18 (by decide)) (fun σ20 hσ20 => zpc_some hσ20))))) (fun _ => zpc_if (fun _ => zpc_bi (w_fX5_pop h) (fun σ21 v22 hσ21 => zpc_bu (w_fX5_goTo hσ21) (fun σ23 hσ23 => zpc_ck (zpc_ck (zpc_bs (zKeC.wi hσ23 (by decide)) (fun σ24 hσ24 => zpc_some hσ24)))))) (fun _ => zpc_if (fun _ => zpc_ck (zpc_bs (zKeC.wi h (by decide)) (fun σ25 hσ25 => zpc_some hσ25))) (fun _ => zpc_bi (w_fX5_moreOfA h) (fun σ26 v27 hσ26 => zpc_some hσ26)))))))))) (fun _ => zpc_some h)
theorem w_fX5_exchange_211 {σ0 : zSt} {σ : zSt} {x1 : Int32} (h : zKeC σ0 σ) : zpc (fX5_exchange_211 σ x1) (fun r => zKeC σ0 (r.1)) := by
  unfold fX5_exchange_211
  exact zpc_ck (zpc_bs (zKeC.wi h (by decide)) (fun σ1 hσ1 => zpc_ck (zpc_bs (zKeC.wi hσ1 (by decide)) (fun σ2 hσ2 => zpc_ck (zpc_bs (zKeC.wi hσ2 (by decide)) (fun σ3 hσ3 => zpc_some hσ3))))))
theorem w_fX5_exchange {σ0 : zSt} {σ : zSt} {x1 : Int32} (h : zKeC σ0 σ) : zpc (fX5_exchange σ x1) (fun r => zKeC σ0 (r.1)) := by
  unfold fX5_exchange
  exact zpc_if (fun _ => zpc_bi (w_fX5_fetchWord h) (fun σ4 v5 hσ4 => zpc_bu (w_fX5_goTo hσ4) (fun σ6 hσ6 => zpc_some hσ6))) (fun _ => zpc_if (fun _ => w_fX5_exchange_211 h) (fun _ => zpc_if (fun _ => zpc_bi (w_fX5_fetch h) (fun σ7 v8 hσ7 => zpc_ck (zpc_bu (w_fX4_write hσ7) (fun σ9 hσ9 => zpc_ck (zpc_ck (zpc_bs (zKeC.wi hσ9 (by decide)) (fun σ10 hσ10 => zpc_some hσ10))))))) (fun _ => zpc_if (fun _ => zpc_bi (w_fX5_fetch h) (fun σ11 v12 hσ11 => zpc_ck (zpc_ck (zpc_bs (zKeC.wi hσ11 (by decide)) (fun σ13 hσ13 => zpc_bi (w_fX4_read hσ13) (fun σ14 v15 hσ14 => zpc_ck (zpc_bs (zKeC.wi hσ14 (by decide)) (fun σ16 hσ16 => zpc_some hσ16)))))))) (fun _ => zpc_if (fun _ => zpc_ck (zpc_bi (w_fX5_readWord h) (fun σ17 v18 hσ17 => zpc_ck (zpc_bi (w_fX5_hl hσ17) (fun σ19 v20 hσ19 => zpc_bu (w_fX5_writeWord hσ19) (fun σ21 hσ21 => zpc_bu (w_fX5_putHl hσ21) (fun σ22 hσ22 => zpc_ck (zpc_bs (zKeC.wi hσ22 (by decide)) (fun σ23 hσ23 => zpc_some hσ23))))))))) (fun _ => zpc_if (fun _ => zpc_bi (w_fX5_pairAt h) (fun σ24 v25 hσ24 => zpc_bi (w_fX5_pairAt hσ24) (fun σ26 v27 hσ26 => zpc_bu (w_fX5_putPairAt hσ26) (fun σ28 hσ28 => zpc_bu (w_fX5_putPairAt hσ28) (fun σ29 hσ29 => zpc_some hσ29))))) (fun _ => w_fX5_exchange_211 h))))))
theorem w_fX5_sum_61 {σ0 : zSt} {σ : zSt} {x4 : Int32} {x5 : Int32} {s0 : Int32} {s1 : Int32} {s2 : Int32} (h : zKeC σ0 σ) : zpc (fX5_sum_61 σ x4 x5 s0 s1 s2) (fun r => zKeC σ0 (r.1)) := by
  unfold fX5_sum_61
  exact zpc_ck (zpc_bs (zKeC.wi h (by decide)) (fun σ1 hσ1 => zpc_some hσ1))
theorem w_fX5_sum {σ0 : zSt} {σ : zSt} {x1 : Int32} {x2 : Int32} {x3 : Int32} (h : zKeC σ0 σ) : zpc (fX5_sum σ x1 x2 x3) (fun r => zKeC σ0 (r.1)) := by
  unfold fX5_sum
  exact zpc_bv (fun v2 _ => zpc_bv (fun v3 _ => zpc_bv (fun v4 _ => zpc_bi (w_fX5_by h) (fun σ5 v6 hσ5 => zpc_if (fun _ => w_fX5_sum_61 hσ5) (fun _ => w_fX5_sum_61 hσ5)))))
theorem w_fX5_doWith_292 {σ0 : zSt} {σ : zSt} (h : zKeC σ0 σ) : zpc (fX5_doWith_292 σ) (fun r => zKeC σ0 (r)) := by
  unfold fX5_doWith_292
  exact zpc_some h
theorem w_fX5_doWith {σ0 : zSt} {σ : zSt} {x1 : Int32} {x2 : Int32} (h : zKeC σ0 σ) : zpc (fX5_doWith σ x1 x2) (fun r => zKeC σ0 (r)) := by
  unfold fX5_doWith
  exact zpc_if (fun _ => zpc_ck (zpc_bi (w_fX5_sum h) (fun σ1 v2 hσ1 => zpc_ck (zpc_bs (zKeC.wi hσ1 (by decide)) (fun σ3 hσ3 => w_fX5_doWith_292 hσ3))))) (fun _ => zpc_if (fun _ => zpc_ck (zpc_ck (zpc_bi (w_fX5_sum h) (fun σ4 v5 hσ4 => zpc_ck (zpc_bs (zKeC.wi hσ4 (by decide)) (fun σ6 hσ6 => w_fX5_doWith_292 hσ6)))))) (fun _ => zpc_if (fun _ => zpc_ck (zpc_bi (w_fX5_difference h) (fun σ7 v8 hσ7 => zpc_ck (zpc_bs (zKeC.wi hσ7 (by decide)) (fun σ9 hσ9 => w_fX5_doWith_292 hσ9))))) (fun _ => zpc_if (fun _ => zpc_ck (zpc_ck (zpc_bi (w_fX5_difference h) (fun σ10 v11 hσ10 => zpc_ck (zpc_bs (zKeC.wi hσ10 (by decide)) (fun σ12 hσ12 => w_fX5_doWith_292 hσ12)))))) (fun _ => zpc_if (fun _ => zpc_ck (zpc_ck (zpc_bs (zKeC.wi h (by decide)) (fun σ13 hσ13 => zpc_ck (zpc_bi (w_fX5_by hσ13) (fun σ14 v15 hσ14 => zpc_ck (zpc_bi (w_fX5_parity hσ14) (fun σ16 v17 hσ16 => zpc_ck (zpc_bs (zKeC.wi hσ16 (by decide)) (fun σ18 hσ18 => w_fX5_doWith_292 hσ18)))))))))) (fun _ => zpc_if (fun _ => zpc_ck (zpc_ck (zpc_bs (zKeC.wi h (by decide)) (fun σ19 hσ19 => zpc_ck (zpc_bi (w_fX5_by hσ19) (fun σ20 v21 hσ20 => zpc_ck (zpc_bi (w_fX5_parity hσ20) (fun σ22 v23 hσ22 => zpc_ck (zpc_bs (zKeC.wi hσ22 (by decide)) (fun σ24 hσ24 => w_fX5_doWith_292 hσ24)))))))))) (fun _ => zpc_if (fun _ => zpc_ck (zpc_ck (zpc_bs (zKeC.wi h (by decide)) (fun σ25 hσ25 => zpc_ck (zpc_bi (w_fX5_by hσ25) (fun σ26 v27 hσ26 => zpc_ck (zpc_bi (w_fX5_parity hσ26) (fun σ28 v29 hσ28 => zpc_ck (zpc_bs (zKeC.wi hσ28 (by decide)) (fun σ30 hσ30 => w_fX5_doWith_292 hσ30)))))))))) (fun _ => zpc_ck (zpc_bi (w_fX5_difference h) (fun σ31 v32 hσ31 => zpc_ck (zpc_ck (zpc_bs (zKeC.wi hσ31 (by decide)) (fun σ33 hσ33 => w_fX5_doWith_292 hσ33))))))))))))
theorem w_fX5_callIf {σ0 : zSt} {σ : zSt} {x1 : Int32} (h : zKeC σ0 σ) : zpc (fX5_callIf σ x1) (fun r => zKeC σ0 (r.1)) := by
  unfold fX5_callIf
  exact zpc_bi (w_fX5_fetchWord h) (fun σ1 v2 hσ1 => zpc_ck (zpc_bs (zKeC.wi hσ1 (by decide)) (fun σ3 hσ3 => zpc_if (fun _ => zpc_some hσ3) (fun _ => zpc_ck (zpc_bu (w_fX5_push hσ3) (fun σ4 hσ4 => zpc_ck (zpc_bs (zKeC.wi hσ4 (by decide)) (fun σ5 hσ5 => zpc_some hσ5))))))))
theorem w_fX5_holds_44 {σ0 : zSt} {σ : zSt} {s0 : Int32} (h : zKeC σ0 σ) : zpc (fX5_holds_44 σ s0) (fun r => zKeC σ0 (r.1)) := by
  unfold fX5_holds_44
  exact zpc_ck (zpc_some h)
theorem w_fX5_holds_36 {σ0 : zSt} {σ : zSt} {s0 : Int32} {s1 : Int32} (h : zKeC σ0 σ) : zpc (fX5_holds_36 σ s0 s1) (fun r => zKeC σ0 (r.1)) := by
  unfold fX5_holds_36
  exact zpc_if (fun _ => w_fX5_holds_44 h) (fun _ => w_fX5_holds_44 h)
theorem w_fX5_holds_24 {σ0 : zSt} {σ : zSt} {x1 : Int32} {s0 : Int32} (h : zKeC σ0 σ) : zpc (fX5_holds_24 σ x1 s0) (fun r => zKeC σ0 (r.1)) := by
  unfold fX5_holds_24
  exact zpc_if (fun _ => w_fX5_holds_36 h) (fun _ => w_fX5_holds_36 h)
theorem w_fX5_holds {σ0 : zSt} {σ : zSt} {x1 : Int32} (h : zKeC σ0 σ) : zpc (fX5_holds σ x1) (fun r => zKeC σ0 (r.1)) := by
  unfold fX5_holds
  exact zpc_ck (zpc_ck (zpc_if (fun _ => w_fX5_holds_24 h) (fun _ => w_fX5_holds_24 h)))
theorem w_fX5_popPair_25 {σ0 : zSt} {σ : zSt} (h : zKeC σ0 σ) : zpc (fX5_popPair_25 σ) (fun r => zKeC σ0 (r.1)) := by
  unfold fX5_popPair_25
  exact zpc_some h
theorem w_fX5_popPair {σ0 : zSt} {σ : zSt} {x1 : Int32} (h : zKeC σ0 σ) : zpc (fX5_popPair σ x1) (fun r => zKeC σ0 (r.1)) := by
  unfold fX5_popPair
  exact zpc_bi (w_fX5_pop h) (fun σ1 v2 hσ1 => zpc_if (fun _ => zpc_bu (w_fX5_putPairAt hσ1) (fun σ4 hσ4 => w_fX5_popPair_25 hσ4)) (fun _ => zpc_bu (w_fX5_putPair hσ1) (fun σ3 hσ3 => w_fX5_popPair_25 hσ3)))
theorem w_fX5_changeWithOther {σ0 : zSt} {σ : zSt} {x1 : Int32} (h : zKeC σ0 σ) : zpc (fX5_changeWithOther σ x1) (fun r => zKeC σ0 (r)) := by
  unfold fX5_changeWithOther
  exact zpc_ck (zpc_bv (fun v1 _ => zpc_ck (zpc_ck (zpc_bs (zKeC.wi h (by decide)) (fun σ2 hσ2 => zpc_ck (zpc_bs (zKeC.wi hσ2 (by decide)) (fun σ3 hσ3 => zpc_some hσ3)))))))
theorem w_fX5_leave_41_body {σ0 : zSt} {k41 : zSt → Int32 → Option (zSt × Int32)} (hk41 : ∀ (y0 : zSt) (y1 : Int32), zKeC σ0 y0 → zpc (k41 y0 y1) (fun r => zKeC σ0 (r.1))) {σ : zSt} {x2 : Int32} (h : zKeC σ0 σ) : zpc (fX5_leave_41_body k41 σ x2) (fun r => zKeC σ0 (r.1)) := by
  unfold fX5_leave_41_body
  exact zpc_if (fun _ => zpc_some h) (fun _ => zpc_bu (w_fX5_changeWithOther h) (fun σ1 hσ1 => zpc_bv (fun v2 _ => hk41 _ _ hσ1)))
theorem w_fX5_leave_41 {σ0 : zSt} : ∀ (n : Nat) (y0 : zSt) (y1 : Int32), zKeC σ0 y0 → zpc (fX5_leave_41 n y0 y1) (fun r => zKeC σ0 (r.1)) := by
  intro n
  induction n with
  | zero => intro y0 y1 h; exact zpc_none
  | succ n ih => intro y0 y1 h; exact w_fX5_leave_41_body ih h
theorem w_fX5_leave {σ0 : zSt} {σ : zSt} {x1 : Int32} (h : zKeC σ0 σ) : zpc (fX5_leave σ x1) (fun r => zKeC σ0 (r.1)) := by
  unfold fX5_leave
  exact zpc_if (fun _ => zpc_bi (w_fX5_pop h) (fun σ3 v4 hσ3 => zpc_bu (w_fX5_goTo hσ3) (fun σ5 hσ5 => zpc_some hσ5))) (fun _ => zpc_if (fun _ => w_fX5_leave_41 _ _ _ h) (fun _ => zpc_if (fun _ => zpc_bi (w_fX5_hl h) (fun σ6 v7 hσ6 => zpc_ck (zpc_bs (zKeC.wi hσ6 (by decide)) (fun σ8 hσ8 => zpc_some hσ8)))) (fun _ => zpc_bi (w_fX5_hl h) (fun σ9 v10 hσ9 => zpc_ck (zpc_bs (zKeC.wi hσ9 (by decide)) (fun σ11 hσ11 => zpc_some hσ11))))))
theorem w_fX5_lastQuarter_196 {σ0 : zSt} {σ : zSt} {x2 : Int32} (h : zKeC σ0 σ) : zpc (fX5_lastQuarter_196 σ x2) (fun r => zKeC σ0 (r.1)) := by
  unfold fX5_lastQuarter_196
  exact zpc_ck (zpc_bu (w_fX5_push h) (fun σ1 hσ1 => zpc_bu (w_fX5_goTo hσ1) (fun σ2 hσ2 => zpc_some hσ2)))
theorem w_fX5_lastQuarter_178 {σ0 : zSt} {σ : zSt} {s0 : Int32} (h : zKeC σ0 σ) : zpc (fX5_lastQuarter_178 σ s0) (fun r => zKeC σ0 (r.1)) := by
  unfold fX5_lastQuarter_178
  exact zpc_bu (w_fX5_push h) (fun σ3 hσ3 => zpc_some hσ3)
theorem w_fX5_lastQuarter_130 {σ0 : zSt} {σ : zSt} (h : zKeC σ0 σ) : zpc (fX5_lastQuarter_130 σ) (fun r => zKeC σ0 (r.1)) := by
  unfold fX5_lastQuarter_130
  exact zpc_some h
theorem w_fX5_lastQuarter_96 {σ0 : zSt} {σ : zSt} {s0 : Int32} (h : zKeC σ0 σ) : zpc (fX5_lastQuarter_96 σ s0) (fun r => zKeC σ0 (r.1)) := by
  unfold fX5_lastQuarter_96
  exact zpc_some h
theorem w_fX5_lastQuarter {σ0 : zSt} {σ : zSt} {x1 : Int32} (h : zKeC σ0 σ) : zpc (fX5_lastQuarter σ x1) (fun r => zKeC σ0 (r.1)) := by
  unfold fX5_lastQuarter
  exact zpc_bv (fun v4 _ => zpc_if (fun _ => zpc_bi (w_fX5_holds h) (fun σ5 v6 hσ5 => zpc_if (fun _ => zpc_some hσ5) (fun _ => zpc_bi (w_fX5_pop hσ5) (fun σ7 v8 hσ7 => zpc_bu (w_fX5_goTo hσ7) (fun σ9 hσ9 => zpc_some hσ9))))) (fun _ => zpc_if (fun _ => zpc_if (fun _ => zpc_bi (w_fX5_popPair h) (fun σ12 v13 hσ12 => w_fX5_lastQuarter_96 hσ12)) (fun _ => zpc_bi (w_fX5_leave h) (fun σ10 v11 hσ10 => w_fX5_lastQuarter_96 hσ10))) (fun _ => zpc_if (fun _ => zpc_bi (w_fX5_fetchWord h) (fun σ14 v15 hσ14 => zpc_ck (zpc_bs (zKeC.wi hσ14 (by decide)) (fun σ16 hσ16 => zpc_bi (w_fX5_holds hσ16) (fun σ17 v18 hσ17 => zpc_if (fun _ => w_fX5_lastQuarter_130 hσ17) (fun _ => zpc_ck (zpc_ck (zpc_bs (zKeC.wi hσ17 (by decide)) (fun σ19 hσ19 => w_fX5_lastQuarter_130 hσ19))))))))) (fun _ => zpc_if (fun _ => w_fX5_lastQuarter_196 h) (fun _ => zpc_if (fun _ => zpc_bi (w_fX5_holds h) (fun σ20 v21 hσ20 => zpc_bi (w_fX5_callIf hσ20) (fun σ22 v23 hσ22 => zpc_some hσ22))) (fun _ => zpc_if (fun _ => zpc_if (fun _ => zpc_bi (w_fX5_callIf h) (fun σ28 v29 hσ28 => zpc_some hσ28)) (fun _ => zpc_if (fun _ => zpc_bi (w_fX5_pairAt h) (fun σ26 v27 hσ26 => w_fX5_lastQuarter_178 hσ26)) (fun _ => zpc_bi (w_fX5_pair h) (fun σ24 v25 hσ24 => w_fX5_lastQuarter_178 hσ24)))) (fun _ => zpc_if (fun _ => zpc_bi (w_fX5_fetch h) (fun σ30 v31 hσ30 => zpc_bu (w_fX5_doWith hσ30) (fun σ32 hσ32 => zpc_some hσ32))) (fun _ => w_fX5_lastQuarter_196 h))))))))
theorem w_fX5_doWithRegister_33 {σ0 : zSt} {σ : zSt} {s0 : Int32} (h : zKeC σ0 σ) : zpc (fX5_doWithRegister_33 σ s0) (fun r => zKeC σ0 (r.1)) := by
  unfold fX5_doWithRegister_33
  exact zpc_some h
theorem w_fX5_doWithRegister {σ0 : zSt} {σ : zSt} {x1 : Int32} (h : zKeC σ0 σ) : zpc (fX5_doWithRegister σ x1) (fun r => zKeC σ0 (r.1)) := by
  unfold fX5_doWithRegister
  exact zpc_bi (w_fX5_one h) (fun σ1 v2 hσ1 => zpc_bu (w_fX5_doWith hσ1) (fun σ3 hσ3 => zpc_if (fun _ => w_fX5_doWithRegister_33 hσ3) (fun _ => w_fX5_doWithRegister_33 hσ3)))
theorem w_fX5_move_56 {σ0 : zSt} {σ : zSt} {s0 : Int32} (h : zKeC σ0 σ) : zpc (fX5_move_56 σ s0) (fun r => zKeC σ0 (r.1)) := by
  unfold fX5_move_56
  exact zpc_some h
theorem w_fX5_move_50 {σ0 : zSt} {σ : zSt} (h : zKeC σ0 σ) : zpc (fX5_move_50 σ) (fun r => zKeC σ0 (r.1)) := by
  unfold fX5_move_50
  exact w_fX5_move_56 h
theorem w_fX5_move {σ0 : zSt} {σ : zSt} {x1 : Int32} (h : zKeC σ0 σ) : zpc (fX5_move σ x1) (fun r => zKeC σ0 (r.1)) := by
  unfold fX5_move
  exact zpc_if (fun _ => zpc_ck (zpc_bs (zKeC.wi h (by decide)) (fun σ6 hσ6 => zpc_some hσ6))) (fun _ => zpc_bv (fun v1 _ => zpc_bv (fun v2 _ => zpc_bi (w_fX5_one h) (fun σ3 v4 hσ3 => zpc_bu (w_fX5_putOne hσ3) (fun σ5 hσ5 => zpc_if (fun _ => w_fX5_move_50 hσ5) (fun _ => zpc_if (fun _ => w_fX5_move_50 hσ5) (fun _ => w_fX5_move_56 hσ5)))))))
theorem w_fX5_adjustA_202 {σ0 : zSt} {σ : zSt} {x4 : Int32} {s0 : Int32} {s1 : Int32} {s2 : Int32} (h : zKeC σ0 σ) : zpc (fX5_adjustA_202 σ x4 s0 s1 s2) (fun r => zKeC σ0 (r)) := by
  unfold fX5_adjustA_202
  exact zpc_ck (zpc_ck (zpc_bs (zKeC.wi h (by decide)) (fun σ1 hσ1 => zpc_some hσ1)))
theorem w_fX5_adjustA_161 {σ0 : zSt} {σ : zSt} {x4 : Int32} {x6 : Int32} {s0 : Int32} (h : zKeC σ0 σ) : zpc (fX5_adjustA_161 σ x4 x6 s0) (fun r => zKeC σ0 (r)) := by
  unfold fX5_adjustA_161
  exact zpc_bv (fun v2 _ => zpc_ck (zpc_bs (zKeC.wi h (by decide)) (fun σ3 hσ3 => zpc_bi (w_fX5_by hσ3) (fun σ4 v5 hσ4 => zpc_bi (w_fX5_parity hσ4) (fun σ6 v7 hσ6 => zpc_if (fun _ => w_fX5_adjustA_202 hσ6) (fun _ => w_fX5_adjustA_202 hσ6))))))
theorem w_fX5_adjustA_134 {σ0 : zSt} {σ : zSt} {x3 : Int32} {x4 : Int32} {x5 : Int32} {s0 : Int32} (h : zKeC σ0 σ) : zpc (fX5_adjustA_134 σ x3 x4 x5 s0) (fun r => zKeC σ0 (r)) := by
  unfold fX5_adjustA_134
  exact zpc_if (fun _ => zpc_ck (w_fX5_adjustA_161 h)) (fun _ => zpc_ck (w_fX5_adjustA_161 h))
theorem w_fX5_adjustA_119 {σ0 : zSt} {σ : zSt} {x3 : Int32} {x4 : Int32} {x5 : Int32} (h : zKeC σ0 σ) : zpc (fX5_adjustA_119 σ x3 x4 x5) (fun r => zKeC σ0 (r)) := by
  unfold fX5_adjustA_119
  exact w_fX5_adjustA_134 h
theorem w_fX5_adjustA_98 {σ0 : zSt} {σ : zSt} {x1 : Int32} {x2 : Int32} {x3 : Int32} {x4 : Int32} {s0 : Int32} {s1 : Int32} (h : zKeC σ0 σ) : zpc (fX5_adjustA_98 σ x1 x2 x3 x4 s0 s1) (fun r => zKeC σ0 (r)) := by
  unfold fX5_adjustA_98
  exact zpc_bv (fun v8 _ => zpc_if (fun _ => zpc_if (fun _ => w_fX5_adjustA_134 h) (fun _ => w_fX5_adjustA_134 h)) (fun _ => zpc_if (fun _ => w_fX5_adjustA_119 h) (fun _ => zpc_if (fun _ => w_fX5_adjustA_119 h) (fun _ => w_fX5_adjustA_134 h))))
theorem w_fX5_adjustA_87 {σ0 : zSt} {σ : zSt} {x1 : Int32} {x2 : Int32} {x3 : Int32} {x4 : Int32} {s0 : Int32} (h : zKeC σ0 σ) : zpc (fX5_adjustA_87 σ x1 x2 x3 x4 s0) (fun r => zKeC σ0 (r)) := by
  unfold fX5_adjustA_87
  exact zpc_if (fun _ => w_fX5_adjustA_98 h) (fun _ => w_fX5_adjustA_98 h)
theorem w_fX5_adjustA_81 {σ0 : zSt} {σ : zSt} {x1 : Int32} {x2 : Int32} {x3 : Int32} {x4 : Int32} (h : zKeC σ0 σ) : zpc (fX5_adjustA_81 σ x1 x2 x3 x4) (fun r => zKeC σ0 (r)) := by
  unfold fX5_adjustA_81
  exact w_fX5_adjustA_87 h
theorem w_fX5_adjustA_69 {σ0 : zSt} {σ : zSt} {x1 : Int32} {x2 : Int32} {x3 : Int32} {s0 : Int32} (h : zKeC σ0 σ) : zpc (fX5_adjustA_69 σ x1 x2 x3 s0) (fun r => zKeC σ0 (r)) := by
  unfold fX5_adjustA_69
  exact zpc_if (fun _ => w_fX5_adjustA_81 h) (fun _ => zpc_if (fun _ => w_fX5_adjustA_87 h) (fun _ => w_fX5_adjustA_81 h))
theorem w_fX5_adjustA_44 {σ0 : zSt} {σ : zSt} {x1 : Int32} {x2 : Int32} {s0 : Int32} (h : zKeC σ0 σ) : zpc (fX5_adjustA_44 σ x1 x2 s0) (fun r => zKeC σ0 (r)) := by
  unfold fX5_adjustA_44
  exact zpc_ck (zpc_if (fun _ => zpc_ck (w_fX5_adjustA_69 h)) (fun _ => w_fX5_adjustA_69 h))
theorem w_fX5_adjustA_27 {σ0 : zSt} {σ : zSt} {x1 : Int32} {s0 : Int32} (h : zKeC σ0 σ) : zpc (fX5_adjustA_27 σ x1 s0) (fun r => zKeC σ0 (r)) := by
  unfold fX5_adjustA_27
  exact zpc_ck (zpc_if (fun _ => w_fX5_adjustA_44 h) (fun _ => w_fX5_adjustA_44 h))
theorem w_fX5_adjustA {σ0 : zSt} {σ : zSt} (h : zKeC σ0 σ) : zpc (fX5_adjustA σ) (fun r => zKeC σ0 (r)) := by
  unfold fX5_adjustA
  exact zpc_ck (zpc_bv (fun v9 _ => zpc_ck (zpc_if (fun _ => w_fX5_adjustA_27 h) (fun _ => w_fX5_adjustA_27 h))))
theorem w_fX5_changeA_130 {σ0 : zSt} {σ : zSt} {s0 : Int32} {s1 : Int32} {s2 : Int32} (h : zKeC σ0 σ) : zpc (fX5_changeA_130 σ s0 s1 s2) (fun r => zKeC σ0 (r)) := by
  unfold fX5_changeA_130
  exact zpc_ck (zpc_ck (zpc_bs (zKeC.wi h (by decide)) (fun σ1 hσ1 => zpc_some hσ1)))
theorem w_fX5_changeA {σ0 : zSt} {σ : zSt} {x1 : Int32} (h : zKeC σ0 σ) : zpc (fX5_changeA σ x1) (fun r => zKeC σ0 (r)) := by
  unfold fX5_changeA
  exact zpc_ck (zpc_bv (fun v2 _ => zpc_ck (zpc_bv (fun v3 _ => zpc_if (fun _ => zpc_bu (w_fX5_adjustA h) (fun σ4 hσ4 => zpc_some hσ4)) (fun _ => zpc_if (fun _ => zpc_ck (zpc_ck (zpc_bs (zKeC.wi h (by decide)) (fun σ5 hσ5 => zpc_ck (zpc_ck (zpc_bs (zKeC.wi hσ5 (by decide)) (fun σ6 hσ6 => zpc_some hσ6))))))) (fun _ => zpc_if (fun _ => zpc_ck (zpc_ck (zpc_bs (zKeC.wi h (by decide)) (fun σ7 hσ7 => zpc_some hσ7)))) (fun _ => zpc_if (fun _ => zpc_if (fun _ => w_fX5_changeA_130 h) (fun _ => w_fX5_changeA_130 h)) (fun _ => zpc_ck (zpc_bi (w_fX5_turn h) (fun σ8 v9 hσ8 => zpc_ck (zpc_bs (zKeC.wi hσ8 (by decide)) (fun σ10 hσ10 => zpc_ck (zpc_ck (zpc_bs (zKeC.wi hσ10 (by decide)) (fun σ11 hσ11 => zpc_some hσ11)))))))))))))))
theorem w_fX5_oneLess_53 {σ0 : zSt} {σ : zSt} {x2 : Int32} {s0 : Int32} {s1 : Int32} {s2 : Int32} (h : zKeC σ0 σ) : zpc (fX5_oneLess_53 σ x2 s0 s1 s2) (fun r => zKeC σ0 (r.1)) := by
  unfold fX5_oneLess_53
  exact zpc_ck (zpc_bs (zKeC.wi h (by decide)) (fun σ1 hσ1 => zpc_some hσ1))
theorem w_fX5_oneLess_41 {σ0 : zSt} {σ : zSt} {x2 : Int32} {s0 : Int32} {s1 : Int32} {s2 : Int32} (h : zKeC σ0 σ) : zpc (fX5_oneLess_41 σ x2 s0 s1 s2) (fun r => zKeC σ0 (r.1)) := by
  unfold fX5_oneLess_41
  exact zpc_if (fun _ => w_fX5_oneLess_53 h) (fun _ => w_fX5_oneLess_53 h)
theorem w_fX5_oneLess {σ0 : zSt} {σ : zSt} {x1 : Int32} (h : zKeC σ0 σ) : zpc (fX5_oneLess σ x1) (fun r => zKeC σ0 (r.1)) := by
  unfold fX5_oneLess
  exact zpc_bv (fun v2 _ => zpc_ck (zpc_bi (w_fX5_by h) (fun σ3 v4 hσ3 => zpc_if (fun _ => w_fX5_oneLess_41 hσ3) (fun _ => w_fX5_oneLess_41 hσ3))))
theorem w_fX5_oneMore_52 {σ0 : zSt} {σ : zSt} {x2 : Int32} {s0 : Int32} {s1 : Int32} {s2 : Int32} (h : zKeC σ0 σ) : zpc (fX5_oneMore_52 σ x2 s0 s1 s2) (fun r => zKeC σ0 (r.1)) := by
  unfold fX5_oneMore_52
  exact zpc_ck (zpc_bs (zKeC.wi h (by decide)) (fun σ1 hσ1 => zpc_some hσ1))
theorem w_fX5_oneMore_39 {σ0 : zSt} {σ : zSt} {x2 : Int32} {s0 : Int32} {s1 : Int32} {s2 : Int32} (h : zKeC σ0 σ) : zpc (fX5_oneMore_39 σ x2 s0 s1 s2) (fun r => zKeC σ0 (r.1)) := by
  unfold fX5_oneMore_39
  exact zpc_if (fun _ => w_fX5_oneMore_52 h) (fun _ => w_fX5_oneMore_52 h)
theorem w_fX5_oneMore {σ0 : zSt} {σ : zSt} {x1 : Int32} (h : zKeC σ0 σ) : zpc (fX5_oneMore σ x1) (fun r => zKeC σ0 (r.1)) := by
  unfold fX5_oneMore
  exact zpc_bv (fun v2 _ => zpc_ck (zpc_bi (w_fX5_by h) (fun σ3 v4 hσ3 => zpc_if (fun _ => w_fX5_oneMore_39 hσ3) (fun _ => w_fX5_oneMore_39 hσ3))))
theorem w_fX5_far_78 {σ0 : zSt} {σ : zSt} (h : zKeC σ0 σ) : zpc (fX5_far_78 σ) (fun r => zKeC σ0 (r.1)) := by
  unfold fX5_far_78
  exact zpc_some h
theorem w_fX5_far_152 {σ0 : zSt} {σ : zSt} {s0 : Int32} (h : zKeC σ0 σ) : zpc (fX5_far_152 σ s0) (fun r => zKeC σ0 (r.1)) := by
  unfold fX5_far_152
  exact zpc_some h
theorem w_fX5_far_140 {σ0 : zSt} {σ : zSt} {x1 : Int32} (h : zKeC σ0 σ) : zpc (fX5_far_140 σ x1) (fun r => zKeC σ0 (r.1)) := by
  unfold fX5_far_140
  exact zpc_if (fun _ => w_fX5_far_152 h) (fun _ => w_fX5_far_152 h)
theorem w_fX5_far_32 {σ0 : zSt} {σ : zSt} {x1 : Int32} {x2 : Int32} {s0 : Int32} (h : zKeC σ0 σ) : zpc (fX5_far_32 σ x1 x2 s0) (fun r => zKeC σ0 (r.1)) := by
  unfold fX5_far_32
  exact zpc_ck (zpc_bs (zKeC.wi h (by decide)) (fun σ1 hσ1 => zpc_if (fun _ => zpc_if (fun _ => zpc_bi (w_fX5_hl hσ1) (fun σ7 v8 hσ7 => zpc_bu (w_fX5_writeWord hσ7) (fun σ9 hσ9 => w_fX5_far_78 hσ9))) (fun _ => zpc_bi (w_fX5_readWord hσ1) (fun σ10 v11 hσ10 => zpc_bu (w_fX5_putHl hσ10) (fun σ12 hσ12 => w_fX5_far_78 hσ12)))) (fun _ => zpc_if (fun _ => zpc_ck (zpc_bu (w_fX2_write hσ1) (fun σ2 hσ2 => zpc_ck (zpc_ck (zpc_bs (zKeC.wi hσ2 (by decide)) (fun σ3 hσ3 => w_fX5_far_140 hσ3)))))) (fun _ => zpc_bi (w_fX2_read hσ1) (fun σ4 v5 hσ4 => zpc_ck (zpc_bs (zKeC.wi hσ4 (by decide)) (fun σ6 hσ6 => w_fX5_far_140 hσ6)))))))
theorem w_fX5_far_12 {σ0 : zSt} {σ : zSt} {x1 : Int32} {s0 : Int32} (h : zKeC σ0 σ) : zpc (fX5_far_12 σ x1 s0) (fun r => zKeC σ0 (r.1)) := by
  unfold fX5_far_12
  exact zpc_if (fun _ => zpc_bi (w_fX5_fetchWord h) (fun σ13 v14 hσ13 => w_fX5_far_32 hσ13)) (fun _ => zpc_bi (w_fX5_pair h) (fun σ15 v16 hσ15 => w_fX5_far_32 hσ15))
theorem w_fX5_far {σ0 : zSt} {σ : zSt} {x1 : Int32} (h : zKeC σ0 σ) : zpc (fX5_far σ x1) (fun r => zKeC σ0 (r.1)) := by
  unfold fX5_far
  exact zpc_if (fun _ => w_fX5_far_12 h) (fun _ => w_fX5_far_12 h)
theorem w_fX5_loadPair {σ0 : zSt} {σ : zSt} {x1 : Int32} (h : zKeC σ0 σ) : zpc (fX5_loadPair σ x1) (fun r => zKeC σ0 (r.1)) := by
  unfold fX5_loadPair
  exact zpc_bi (w_fX5_fetchWord h) (fun σ1 v2 hσ1 => zpc_bu (w_fX5_putPair hσ1) (fun σ3 hσ3 => zpc_some hσ3))
theorem w_fX5_addPair {σ0 : zSt} {σ : zSt} {x1 : Int32} (h : zKeC σ0 σ) : zpc (fX5_addPair σ x1) (fun r => zKeC σ0 (r.1)) := by
  unfold fX5_addPair
  exact zpc_bi (w_fX5_hl h) (fun σ1 v2 hσ1 => zpc_bi (w_fX5_pair hσ1) (fun σ3 v4 hσ3 => zpc_bv (fun v5 _ => zpc_ck (zpc_bs (zKeC.wi hσ3 (by decide)) (fun σ6 hσ6 => zpc_bu (w_fX5_putHl hσ6) (fun σ7 hσ7 => zpc_ck (zpc_ck (zpc_bs (zKeC.wi hσ7 (by decide)) (fun σ8 hσ8 => zpc_some hσ8)))))))))
theorem w_fX5_near_20 {σ0 : zSt} {σ : zSt} (h : zKeC σ0 σ) : zpc (fX5_near_20 σ) (fun r => zKeC σ0 (r.1)) := by
  unfold fX5_near_20
  exact zpc_some h
theorem w_fX5_near_133 {σ0 : zSt} {σ : zSt} {s0 : Int32} {s1 : Int32} (h : zKeC σ0 σ) : zpc (fX5_near_133 σ s0 s1) (fun r => zKeC σ0 (r.1)) := by
  unfold fX5_near_133
  exact zpc_some h
theorem w_fX5_near_123 {σ0 : zSt} {σ : zSt} {x1 : Int32} {s0 : Int32} (h : zKeC σ0 σ) : zpc (fX5_near_123 σ x1 s0) (fun r => zKeC σ0 (r.1)) := by
  unfold fX5_near_123
  exact zpc_if (fun _ => w_fX5_near_133 h) (fun _ => w_fX5_near_133 h)
theorem w_fX5_near_112 {σ0 : zSt} {σ : zSt} {x1 : Int32} {x3 : Int32} (h : zKeC σ0 σ) : zpc (fX5_near_112 σ x1 x3) (fun r => zKeC σ0 (r.1)) := by
  unfold fX5_near_112
  exact zpc_if (fun _ => w_fX5_near_123 h) (fun _ => w_fX5_near_123 h)
theorem w_fX5_near_92 {σ0 : zSt} {σ : zSt} {x1 : Int32} {x2 : Int32} {x3 : Int32} (h : zKeC σ0 σ) : zpc (fX5_near_92 σ x1 x2 x3) (fun r => zKeC σ0 (r.1)) := by
  unfold fX5_near_92
  exact zpc_if (fun _ => w_fX5_near_112 h) (fun _ => zpc_ck (zpc_bu (w_fX5_goTo h) (fun σ1 hσ1 => w_fX5_near_112 hσ1)))
theorem w_fX5_near_91 {σ0 : zSt} {σ : zSt} {x1 : Int32} {x2 : Int32} {s0 : Int32} (h : zKeC σ0 σ) : zpc (fX5_near_91 σ x1 x2 s0) (fun r => zKeC σ0 (r.1)) := by
  unfold fX5_near_91
  exact w_fX5_near_92 h
theorem w_fX5_near_53 {σ0 : zSt} {σ : zSt} {x1 : Int32} {x2 : Int32} {s0 : Int32} (h : zKeC σ0 σ) : zpc (fX5_near_53 σ x1 x2 s0) (fun r => zKeC σ0 (r.1)) := by
  unfold fX5_near_53
  exact zpc_if (fun _ => zpc_ck (zpc_ck (zpc_bs (zKeC.wi h (by decide)) (fun σ2 hσ2 => zpc_ck (zpc_if (fun _ => w_fX5_near_91 hσ2) (fun _ => w_fX5_near_91 hσ2)))))) (fun _ => w_fX5_near_92 h)
theorem w_fX5_near_48 {σ0 : zSt} {σ : zSt} {x1 : Int32} {x2 : Int32} (h : zKeC σ0 σ) : zpc (fX5_near_48 σ x1 x2) (fun r => zKeC σ0 (r.1)) := by
  unfold fX5_near_48
  exact w_fX5_near_53 h
theorem w_fX5_near_52 {σ0 : zSt} {σ : zSt} {x1 : Int32} {x2 : Int32} (h : zKeC σ0 σ) : zpc (fX5_near_52 σ x1 x2) (fun r => zKeC σ0 (r.1)) := by
  unfold fX5_near_52
  exact w_fX5_near_53 h
theorem w_fX5_near {σ0 : zSt} {σ : zSt} {x1 : Int32} (h : zKeC σ0 σ) : zpc (fX5_near σ x1) (fun r => zKeC σ0 (r.1)) := by
  unfold fX5_near
  exact zpc_if (fun _ => zpc_bi (w_fX5_fetch h) (fun σ3 v4 hσ3 => zpc_bv (fun v5 _ => zpc_if (fun _ => w_fX5_near_48 hσ3) (fun _ => zpc_if (fun _ => w_fX5_near_52 hσ3) (fun _ => zpc_bi (w_fX5_holds hσ3) (fun σ6 v7 hσ6 => zpc_if (fun _ => w_fX5_near_52 hσ6) (fun _ => w_fX5_near_48 hσ6))))))) (fun _ => zpc_if (fun _ => zpc_bu (w_fX5_changeWithOther h) (fun σ8 hσ8 => zpc_bu (w_fX5_changeWithOther hσ8) (fun σ9 hσ9 => w_fX5_near_20 hσ9))) (fun _ => w_fX5_near_20 h))
theorem w_fX5_firstQuarter_193 {σ0 : zSt} {σ : zSt} {s0 : Int32} (h : zKeC σ0 σ) : zpc (fX5_firstQuarter_193 σ s0) (fun r => zKeC σ0 (r.1)) := by
  unfold fX5_firstQuarter_193
  exact zpc_some h
theorem w_fX5_firstQuarter_170 {σ0 : zSt} {σ : zSt} {s0 : Int32} (h : zKeC σ0 σ) : zpc (fX5_firstQuarter_170 σ s0) (fun r => zKeC σ0 (r.1)) := by
  unfold fX5_firstQuarter_170
  exact zpc_some h
theorem w_fX5_firstQuarter_143 {σ0 : zSt} {σ : zSt} {s0 : Int32} (h : zKeC σ0 σ) : zpc (fX5_firstQuarter_143 σ s0) (fun r => zKeC σ0 (r.1)) := by
  unfold fX5_firstQuarter_143
  exact zpc_some h
theorem w_fX5_firstQuarter_110 {σ0 : zSt} {σ : zSt} {s0 : Int32} {s1 : Int32} {s2 : Int32} (h : zKeC σ0 σ) : zpc (fX5_firstQuarter_110 σ s0 s1 s2) (fun r => zKeC σ0 (r.1)) := by
  unfold fX5_firstQuarter_110
  exact zpc_bu (w_fX5_putPair h) (fun σ1 hσ1 => zpc_some hσ1)
theorem w_fX5_firstQuarter_81 {σ0 : zSt} {σ : zSt} {s0 : Int32} (h : zKeC σ0 σ) : zpc (fX5_firstQuarter_81 σ s0) (fun r => zKeC σ0 (r.1)) := by
  unfold fX5_firstQuarter_81
  exact zpc_some h
theorem w_fX5_firstQuarter {σ0 : zSt} {σ : zSt} {x1 : Int32} (h : zKeC σ0 σ) : zpc (fX5_firstQuarter σ x1) (fun r => zKeC σ0 (r.1)) := by
  unfold fX5_firstQuarter
  exact zpc_bv (fun v2 _ => zpc_if (fun _ => zpc_bi (w_fX5_near h) (fun σ3 v4 hσ3 => zpc_some hσ3)) (fun _ => zpc_if (fun _ => zpc_if (fun _ => zpc_bi (w_fX5_loadPair h) (fun σ7 v8 hσ7 => w_fX5_firstQuarter_81 hσ7)) (fun _ => zpc_bi (w_fX5_addPair h) (fun σ5 v6 hσ5 => w_fX5_firstQuarter_81 hσ5))) (fun _ => zpc_if (fun _ => zpc_bi (w_fX5_far h) (fun σ9 v10 hσ9 => zpc_some hσ9)) (fun _ => zpc_if (fun _ => zpc_bi (w_fX5_pair h) (fun σ11 v12 hσ11 => zpc_if (fun _ => w_fX5_firstQuarter_110 hσ11) (fun _ => w_fX5_firstQuarter_110 hσ11))) (fun _ => zpc_if (fun _ => zpc_bi (w_fX5_one h) (fun σ13 v14 hσ13 => zpc_bi (w_fX5_oneMore hσ13) (fun σ15 v16 hσ15 => zpc_bu (w_fX5_putOne hσ15) (fun σ17 hσ17 => zpc_if (fun _ => w_fX5_firstQuarter_143 hσ17) (fun _ => w_fX5_firstQuarter_143 hσ17))))) (fun _ => zpc_if (fun _ => zpc_bi (w_fX5_one h) (fun σ18 v19 hσ18 => zpc_bi (w_fX5_oneLess hσ18) (fun σ20 v21 hσ20 => zpc_bu (w_fX5_putOne hσ20) (fun σ22 hσ22 => zpc_if (fun _ => w_fX5_firstQuarter_170 hσ22) (fun _ => w_fX5_firstQuarter_170 hσ22))))) (fun _ => zpc_if (fun _ => zpc_bi (w_fX5_fetch h) (fun σ23 v24 hσ23 => zpc_bu (w_fX5_putOne hσ23) (fun σ25 hσ25 => zpc_if (fun _ => w_fX5_firstQuarter_193 hσ25) (fun _ => w_fX5_firstQuarter_193 hσ25)))) (fun _ => zpc_bu (w_fX5_changeA h) (fun σ26 hσ26 => zpc_some hσ26)))))))))
theorem w_fX5_carryOn_90 {σ0 : zSt} {σ : zSt} (h : zKeC σ0 σ) : zpc (fX5_carryOn_90 σ) (fun r => zKeC σ0 (r.1)) := by
  unfold fX5_carryOn_90
  exact zpc_ck (zpc_bs (zKeC.wi h (by decide)) (fun σ1 hσ1 => zpc_some hσ1))
theorem w_fX5_carryOn_193 {σ0 : zSt} {σ : zSt} {s0 : Int32} (h : zKeC σ0 σ) : zpc (fX5_carryOn_193 σ s0) (fun r => zKeC σ0 (r.1)) := by
  unfold fX5_carryOn_193
  exact zpc_some h
theorem w_fX5_carryOn_275 {σ0 : zSt} {σ : zSt} {s0 : Int32} {s1 : Int32} (h : zKeC σ0 σ) : zpc (fX5_carryOn_275 σ s0 s1) (fun r => zKeC σ0 (r.1)) := by
  unfold fX5_carryOn_275
  exact zpc_some h
theorem w_fX5_carryOn_141 {σ0 : zSt} {σ : zSt} {x1 : Int32} {x2 : Int32} (h : zKeC σ0 σ) : zpc (fX5_carryOn_141 σ x1 x2) (fun r => zKeC σ0 (r.1)) := by
  unfold fX5_carryOn_141
  exact zpc_if (fun _ => zpc_bi (w_fX5_fetchOp h) (fun σ18 v19 hσ18 => zpc_bi (w_fX5_turns hσ18) (fun σ20 v21 hσ20 => zpc_some hσ20))) (fun _ => zpc_if (fun _ => zpc_bi (w_fX5_fetchOp h) (fun σ12 v13 hσ12 => zpc_if (fun _ => zpc_bi (w_fX5_block hσ12) (fun σ16 v17 hσ16 => w_fX5_carryOn_193 hσ16)) (fun _ => zpc_bi (w_fX5_behindEd hσ12) (fun σ14 v15 hσ14 => w_fX5_carryOn_193 hσ14)))) (fun _ => zpc_if (fun _ => zpc_bi (w_fX5_firstQuarter h) (fun σ2 v3 hσ2 => zpc_some hσ2)) (fun _ => zpc_if (fun _ => zpc_bi (w_fX5_move h) (fun σ4 v5 hσ4 => zpc_some hσ4)) (fun _ => zpc_if (fun _ => zpc_bi (w_fX5_doWithRegister h) (fun σ6 v7 hσ6 => zpc_some hσ6)) (fun _ => zpc_if (fun _ => zpc_bi (w_fX5_exchange h) (fun σ10 v11 hσ10 => w_fX5_carryOn_275 hσ10)) (fun _ => zpc_bi (w_fX5_lastQuarter h) (fun σ8 v9 hσ8 => w_fX5_carryOn_275 hσ8)))))))
theorem w_fX5_carryOn_115 {σ0 : zSt} {σ : zSt} {s0 : Int32} (h : zKeC σ0 σ) : zpc (fX5_carryOn_115 σ s0) (fun r => zKeC σ0 (r.1)) := by
  unfold fX5_carryOn_115
  exact zpc_bs (zKeC.wi h (by decide)) (fun σ22 hσ22 => zpc_bi (w_fX5_fetchOp hσ22) (fun σ23 v24 hσ23 => zpc_if (fun _ => zpc_bi (w_fX5_turnBeside hσ23) (fun σ27 v28 hσ27 => zpc_some hσ27)) (fun _ => zpc_bi (w_fX5_takePlace hσ23) (fun σ25 v26 hσ25 => w_fX5_carryOn_141 hσ25))))
theorem w_fX5_carryOn_54 {σ0 : zSt} {σ : zSt} {x1 : Int32} (h : zKeC σ0 σ) : zpc (fX5_carryOn_54 σ x1) (fun r => zKeC σ0 (r.1)) := by
  unfold fX5_carryOn_54
  exact zpc_ck (zpc_bi (w_fX2_read h) (fun σ29 v30 hσ29 => zpc_if (fun _ => w_fX5_carryOn_90 hσ29) (fun _ => zpc_if (fun _ => w_fX5_carryOn_90 hσ29) (fun _ => zpc_if (fun _ => w_fX5_carryOn_90 hσ29) (fun _ => zpc_if (fun _ => w_fX5_carryOn_115 hσ29) (fun _ => w_fX5_carryOn_115 hσ29))))))
theorem w_fX5_carryOn {σ0 : zSt} {σ : zSt} (h : zKeC σ0 σ) : zpc (fX5_carryOn σ) (fun r => zKeC σ0 (r.1)) := by
  unfold fX5_carryOn
  exact zpc_ck (zpc_if (fun _ => zpc_bu (w_fX5_growR h) (fun σ37 hσ37 => zpc_some hσ37)) (fun _ => zpc_bs (zKeC.wi h (by decide)) (fun σ31 hσ31 => zpc_bi (w_fX5_pairAt hσ31) (fun σ32 v33 hσ32 => zpc_bs (zKeC.wi hσ32 (by decide)) (fun σ34 hσ34 => zpc_bi (w_fX5_fetchOp hσ34) (fun σ35 v36 hσ35 => zpc_if (fun _ => w_fX5_carryOn_54 hσ35) (fun _ => zpc_if (fun _ => w_fX5_carryOn_54 hσ35) (fun _ => w_fX5_carryOn_141 hσ35))))))))
theorem w_fX6_size_k11 {σ0 : zSt} {σ : zSt} (h : zKeC σ0 σ) : zpc (fX6_size_k11 σ) (fun r => zKeC σ0 (r.1)) := by
  unfold fX6_size_k11
  exact zpc_some h
theorem w_fX6_size_k12 {σ0 : zSt} {σ : zSt} (h : zKeC σ0 σ) : zpc (fX6_size_k12 σ) (fun r => zKeC σ0 (r.1)) := by
  unfold fX6_size_k12
  exact zpc_some h
theorem w_fX6_takeFirst_k11 {σ0 : zSt} {σ : zSt} (h : zKeC σ0 σ) : zpc (fX6_takeFirst_k11 σ) (fun r => zKeC σ0 (r.1)) := by
  unfold fX6_takeFirst_k11
  exact zpc_if (fun _ => zpc_some h) (fun _ => zpc_ck (zpc_bv (fun v1 _ => zpc_bs (zKeC.wi h (by decide)) (fun σ2 hσ2 => zpc_bs (zKeC.wi hσ2 (by decide)) (fun σ3 hσ3 => zpc_some hσ3)))))
theorem w_fX6_takeFirst_k12 {σ0 : zSt} {σ : zSt} (h : zKeC σ0 σ) : zpc (fX6_takeFirst_k12 σ) (fun r => zKeC σ0 (r.1)) := by
  unfold fX6_takeFirst_k12
  exact zpc_if (fun _ => zpc_some h) (fun _ => zpc_ck (zpc_bv (fun v1 _ => zpc_bs (zKeC.wi h (by decide)) (fun σ2 hσ2 => zpc_bs (zKeC.wi hσ2 (by decide)) (fun σ3 hσ3 => zpc_some hσ3)))))
theorem w_fJ7_fill_53178_k30_5_body {σ0 : zSt} {k5 : zSt → Int32 → Int32 → Int32 → Option (zSt)} (hk5 : ∀ (y0 : zSt) (y1 : Int32) (y2 : Int32) (y3 : Int32), zKeC σ0 y0 → zpc (k5 y0 y1 y2 y3) (fun r => zKeC σ0 (r))) {σ : zSt} {x1 : Int32} {x2 : Int32} {x3 : Int32} (h : zKeC σ0 σ) : zpc (fJ7_fill_53178_k30_5_body k5 σ x1 x2 x3) (fun r => zKeC σ0 (r)) := by
  unfold fJ7_fill_53178_k30_5_body
  exact zpc_if (fun _ => zpc_some h) (fun _ => zpc_ck (zpc_bs (zKeC.wi h (by decide)) (fun σ1 hσ1 => zpc_bv (fun v2 _ => hk5 _ _ _ _ hσ1))))
theorem w_fJ7_fill_53178_k30_5 {σ0 : zSt} : ∀ (n : Nat) (y0 : zSt) (y1 : Int32) (y2 : Int32) (y3 : Int32), zKeC σ0 y0 → zpc (fJ7_fill_53178_k30_5 n y0 y1 y2 y3) (fun r => zKeC σ0 (r)) := by
  intro n
  induction n with
  | zero => intro y0 y1 y2 y3 h; exact zpc_none
  | succ n ih => intro y0 y1 y2 y3 h; exact w_fJ7_fill_53178_k30_5_body ih h
theorem w_fJ7_fill_53178_k30 {σ0 : zSt} {σ : zSt} {x1 : Int32} (h : zKeC σ0 σ) : zpc (fJ7_fill_53178_k30 σ x1) (fun r => zKeC σ0 (r)) := by
  unfold fJ7_fill_53178_k30
  exact w_fJ7_fill_53178_k30_5 _ _ _ _ _ h
theorem w_fJ7_fill_fda19_k30_10_body {σ0 : zSt} {k10 : zSt → Int32 → Int32 → Int32 → Option (zSt)} (hk10 : ∀ (y0 : zSt) (y1 : Int32) (y2 : Int32) (y3 : Int32), zKeC σ0 y0 → zpc (k10 y0 y1 y2 y3) (fun r => zKeC σ0 (r))) {σ : zSt} {x2 : Int32} {x3 : Int32} {x4 : Int32} (h : zKeC σ0 σ) : zpc (fJ7_fill_fda19_k30_10_body k10 σ x2 x3 x4) (fun r => zKeC σ0 (r)) := by
  unfold fJ7_fill_fda19_k30_10_body
  exact zpc_if (fun _ => zpc_some h) (fun _ => zpc_ck (zpc_bs (zKeC.wi h (by decide)) (fun σ1 hσ1 => zpc_bv (fun v2 _ => hk10 _ _ _ _ hσ1))))
theorem w_fJ7_fill_fda19_k30_10 {σ0 : zSt} : ∀ (n : Nat) (y0 : zSt) (y1 : Int32) (y2 : Int32) (y3 : Int32), zKeC σ0 y0 → zpc (fJ7_fill_fda19_k30_10 n y0 y1 y2 y3) (fun r => zKeC σ0 (r)) := by
  intro n
  induction n with
  | zero => intro y0 y1 y2 y3 h; exact zpc_none
  | succ n ih => intro y0 y1 y2 y3 h; exact w_fJ7_fill_fda19_k30_10_body ih h
theorem w_fJ7_fill_fda19_k30 {σ0 : zSt} {σ : zSt} {x1 : Int32} {x2 : Int32} {x3 : Int32} (h : zKeC σ0 σ) : zpc (fJ7_fill_fda19_k30 σ x1 x2 x3) (fun r => zKeC σ0 (r)) := by
  unfold fJ7_fill_fda19_k30
  exact zpc_bu (w_fJ7_rangeCheck_23922 h) (fun σ3 hσ3 => w_fJ7_fill_fda19_k30_10 _ _ _ _ _ hσ3)
theorem w_fX7_clear {σ0 : zSt} {σ : zSt} (h : zKeC σ0 σ) : zpc (fX7_clear σ) (fun r => zKeC σ0 (r)) := by
  unfold fX7_clear
  exact zpc_bu (w_fJ7_fill_53178_k30 h) (fun σ1 hσ1 => zpc_bu (w_fJ7_fill_fda19_k30 hσ1) (fun σ2 hσ2 => zpc_ck (zpc_bs (zKeC.wi hσ2 (by decide)) (fun σ3 hσ3 => zpc_ck (zpc_bs (zKeC.wi hσ3 (by decide)) (fun σ4 hσ4 => zpc_some hσ4))))))
theorem w_fX7_keep {σ0 : zSt} {σ : zSt} (h : zKeC σ0 σ) : zpc (fX7_keep σ) (fun r => zKeC σ0 (r)) := by
  unfold fX7_keep
  exact zpc_ck (zpc_bs (zKeC.ci h (by decide)) (fun σ1 hσ1 => zpc_some hσ1))
theorem w_fX7_bringBack {σ0 : zSt} {σ : zSt} (h : zKeC σ0 σ) : zpc (fX7_bringBack σ) (fun r => zKeC σ0 (r)) := by
  unfold fX7_bringBack
  exact zpc_ck (zpc_bs (zKeC.ci h (by decide)) (fun σ1 hσ1 => zpc_some hσ1))
theorem w_fX7_value_20 {σ0 : zSt} {σ : zSt} {s0 : Int32} (h : zKeC σ0 σ) : zpc (fX7_value_20 σ s0) (fun r => zKeC σ0 (r.1)) := by
  unfold fX7_value_20
  exact zpc_some h
theorem w_fX7_value_19 {σ0 : zSt} {σ : zSt} (h : zKeC σ0 σ) : zpc (fX7_value_19 σ) (fun r => zKeC σ0 (r.1)) := by
  unfold fX7_value_19
  exact w_fX7_value_20 h
theorem w_fX7_value {σ0 : zSt} {σ : zSt} {x1 : Int32} (h : zKeC σ0 σ) : zpc (fX7_value σ x1) (fun r => zKeC σ0 (r.1)) := by
  unfold fX7_value
  exact zpc_if (fun _ => w_fX7_value_19 h) (fun _ => zpc_if (fun _ => w_fX7_value_19 h) (fun _ => zpc_ck (w_fX7_value_20 h)))
theorem w_fX8_take {σ0 : zSt} {σ : zSt} (h : zKeC σ0 σ) : zpc (fX8_take σ) (fun r => zKeC σ0 (r.1)) := by
  unfold fX8_take
  exact zpc_bi (w_fX2_read h) (fun σ1 v2 hσ1 => zpc_bs (zKeC.wi hσ1 (by decide)) (fun σ3 hσ3 => zpc_some hσ3))
theorem w_fX8_putSign_29 {σ0 : zSt} {σ : zSt} (h : zKeC σ0 σ) : zpc (fX8_putSign_29 σ) (fun r => zKeC σ0 (r)) := by
  unfold fX8_putSign_29
  exact zpc_some h
theorem w_fX8_putSign {σ0 : zSt} {σ : zSt} {x1 : Int32} (h : zKeC σ0 σ) : zpc (fX8_putSign σ x1) (fun r => zKeC σ0 (r)) := by
  unfold fX8_putSign
  exact zpc_if (fun _ => w_fX8_putSign_29 h) (fun _ => zpc_ck (zpc_bs (zKeC.wi h (by decide)) (fun σ1 hσ1 => zpc_bs (zKeC.wi hσ1 (by decide)) (fun σ2 hσ2 => w_fX8_putSign_29 hσ2))))
theorem w_fX8_putByte {σ0 : zSt} {σ : zSt} {x1 : Int32} (h : zKeC σ0 σ) : zpc (fX8_putByte σ x1) (fun r => zKeC σ0 (r)) := by
  unfold fX8_putByte
  exact zpc_ck (zpc_ck (zpc_bu (w_fX8_putSign h) (fun σ1 hσ1 => zpc_ck (zpc_ck (zpc_bu (w_fX8_putSign hσ1) (fun σ2 hσ2 => zpc_some hσ2))))))
theorem w_fX8_putWord {σ0 : zSt} {σ : zSt} {x1 : Int32} (h : zKeC σ0 σ) : zpc (fX8_putWord σ x1) (fun r => zKeC σ0 (r)) := by
  unfold fX8_putWord
  exact zpc_bu (w_fX8_putByte h) (fun σ1 hσ1 => zpc_bu (w_fX8_putByte hσ1) (fun σ2 hσ2 => zpc_some hσ2))
theorem w_fX8_putHl_35 {σ0 : zSt} {σ : zSt} {s0 : Int32} (h : zKeC σ0 σ) : zpc (fX8_putHl_35 σ s0) (fun r => zKeC σ0 (r)) := by
  unfold fX8_putHl_35
  exact zpc_bu (w_fX8_putSign h) (fun σ1 hσ1 => zpc_some hσ1)
theorem w_fX8_putHl_15 {σ0 : zSt} {σ : zSt} {s0 : Int32} (h : zKeC σ0 σ) : zpc (fX8_putHl_15 σ s0) (fun r => zKeC σ0 (r)) := by
  unfold fX8_putHl_15
  exact zpc_bu (w_fX8_putSign h) (fun σ2 hσ2 => zpc_if (fun _ => w_fX8_putHl_35 hσ2) (fun _ => w_fX8_putHl_35 hσ2))
theorem w_fX8_putHl {σ0 : zSt} {σ : zSt} (h : zKeC σ0 σ) : zpc (fX8_putHl σ) (fun r => zKeC σ0 (r)) := by
  unfold fX8_putHl
  exact zpc_if (fun _ => w_fX8_putHl_15 h) (fun _ => w_fX8_putHl_15 h)
theorem w_fX8_putPlace_45 {σ0 : zSt} {σ : zSt} {s0 : Int32} (h : zKeC σ0 σ) : zpc (fX8_putPlace_45 σ s0) (fun r => zKeC σ0 (r)) := by
  unfold fX8_putPlace_45
  exact zpc_bu (w_fX8_putByte h) (fun σ1 hσ1 => zpc_bu (w_fX8_putSign hσ1) (fun σ2 hσ2 => zpc_some hσ2))
theorem w_fX8_putPlace_25 {σ0 : zSt} {σ : zSt} {x1 : Int32} {s0 : Int32} (h : zKeC σ0 σ) : zpc (fX8_putPlace_25 σ x1 s0) (fun r => zKeC σ0 (r)) := by
  unfold fX8_putPlace_25
  exact zpc_bu (w_fX8_putSign h) (fun σ3 hσ3 => zpc_if (fun _ => w_fX8_putPlace_45 hσ3) (fun _ => w_fX8_putPlace_45 hσ3))
theorem w_fX8_putPlace {σ0 : zSt} {σ : zSt} {x1 : Int32} (h : zKeC σ0 σ) : zpc (fX8_putPlace σ x1) (fun r => zKeC σ0 (r)) := by
  unfold fX8_putPlace
  exact zpc_bu (w_fX8_putSign h) (fun σ4 hσ4 => zpc_bu (w_fX8_putHl hσ4) (fun σ5 hσ5 => zpc_if (fun _ => w_fX8_putPlace_25 hσ5) (fun _ => w_fX8_putPlace_25 hσ5)))
theorem w_fX8_putName_46 {σ0 : zSt} {k5 : zSt → Nat → Int32 → Int32 → Int32 → Option (zSt)} (hk5 : ∀ (y0 : zSt) (y1 : Nat) (y2 : Int32) (y3 : Int32) (y4 : Int32), zKeC σ0 y0 → zpc (k5 y0 y1 y2 y3 y4) (fun r => zKeC σ0 (r))) {σ : zSt} {n1 : Nat} {x2 : Int32} {x3 : Int32} {x4 : Int32} (h : zKeC σ0 σ) : zpc (fX8_putName_46 k5 σ n1 x2 x3 x4) (fun r => zKeC σ0 (r)) := by
  unfold fX8_putName_46
  exact zpc_bv (fun v1 _ => hk5 _ _ _ _ _ h)
theorem w_fX8_putName_5_body {σ0 : zSt} {k5 : zSt → Nat → Int32 → Int32 → Int32 → Option (zSt)} (hk5 : ∀ (y0 : zSt) (y1 : Nat) (y2 : Int32) (y3 : Int32) (y4 : Int32), zKeC σ0 y0 → zpc (k5 y0 y1 y2 y3 y4) (fun r => zKeC σ0 (r))) {σ : zSt} {n1 : Nat} {x2 : Int32} {x3 : Int32} {x4 : Int32} (h : zKeC σ0 σ) : zpc (fX8_putName_5_body k5 σ n1 x2 x3 x4) (fun r => zKeC σ0 (r)) := by
  unfold fX8_putName_5_body
  exact zpc_ck (zpc_if (fun _ => zpc_some h) (fun _ => zpc_ck (zpc_ck (zpc_if (fun _ => zpc_bv (fun v3 _ => w_fX8_putName_46 hk5 h)) (fun _ => zpc_if (fun _ => zpc_ck (zpc_ck (zpc_bu (w_fX8_putSign h) (fun σ2 hσ2 => w_fX8_putName_46 hk5 hσ2)))) (fun _ => w_fX8_putName_46 hk5 h))))))
theorem w_fX8_putName_5 {σ0 : zSt} : ∀ (n : Nat) (y0 : zSt) (y1 : Nat) (y2 : Int32) (y3 : Int32) (y4 : Int32), zKeC σ0 y0 → zpc (fX8_putName_5 n y0 y1 y2 y3 y4) (fun r => zKeC σ0 (r)) := by
  intro n
  induction n with
  | zero => intro y0 y1 y2 y3 y4 h; exact zpc_none
  | succ n ih => intro y0 y1 y2 y3 y4 h; exact w_fX8_putName_5_body ih h
theorem w_fX8_putName {σ0 : zSt} {σ : zSt} {n1 : Nat} {x2 : Int32} (h : zKeC σ0 σ) : zpc (fX8_putName σ n1 x2) (fun r => zKeC σ0 (r)) := by
  unfold fX8_putName
  exact w_fX8_putName_5 _ _ _ _ _ _ h
theorem w_fX8_putOne_78 {σ0 : zSt} {σ : zSt} (h : zKeC σ0 σ) : zpc (fX8_putOne_78 σ) (fun r => zKeC σ0 (r)) := by
  unfold fX8_putOne_78
  exact zpc_some h
theorem w_fX8_putOne_71 {σ0 : zSt} {σ : zSt} {x1 : Int32} (h : zKeC σ0 σ) : zpc (fX8_putOne_71 σ x1) (fun r => zKeC σ0 (r)) := by
  unfold fX8_putOne_71
  exact zpc_bu (w_fX8_putName h) (fun σ1 hσ1 => w_fX8_putOne_78 hσ1)
theorem w_fX8_putOne_65 {σ0 : zSt} {σ : zSt} {s0 : Int32} (h : zKeC σ0 σ) : zpc (fX8_putOne_65 σ s0) (fun r => zKeC σ0 (r)) := by
  unfold fX8_putOne_65
  exact zpc_bu (w_fX8_putSign h) (fun σ2 hσ2 => w_fX8_putOne_78 hσ2)
theorem w_fX8_putOne_34 {σ0 : zSt} {σ : zSt} {x1 : Int32} (h : zKeC σ0 σ) : zpc (fX8_putOne_34 σ x1) (fun r => zKeC σ0 (r)) := by
  unfold fX8_putOne_34
  exact zpc_if (fun _ => w_fX8_putOne_71 h) (fun _ => zpc_if (fun _ => zpc_bu (w_fX8_putHl h) (fun σ3 hσ3 => zpc_if (fun _ => w_fX8_putOne_65 hσ3) (fun _ => w_fX8_putOne_65 hσ3))) (fun _ => w_fX8_putOne_71 h))
theorem w_fX8_putOne_24 {σ0 : zSt} {σ : zSt} {x1 : Int32} (h : zKeC σ0 σ) : zpc (fX8_putOne_24 σ x1) (fun r => zKeC σ0 (r)) := by
  unfold fX8_putOne_24
  exact zpc_if (fun _ => w_fX8_putOne_34 h) (fun _ => zpc_if (fun _ => w_fX8_putOne_34 h) (fun _ => w_fX8_putOne_71 h))
theorem w_fX8_putOne {σ0 : zSt} {σ : zSt} {x1 : Int32} (h : zKeC σ0 σ) : zpc (fX8_putOne σ x1) (fun r => zKeC σ0 (r)) := by
  unfold fX8_putOne
  exact zpc_if (fun _ => zpc_if (fun _ => w_fX8_putOne_24 h) (fun _ => zpc_bi (w_fX8_take h) (fun σ4 v5 hσ4 => zpc_bu (w_fX8_putPlace hσ4) (fun σ6 hσ6 => w_fX8_putOne_78 hσ6)))) (fun _ => w_fX8_putOne_24 h)
theorem w_fX8_putTurned_59 {σ0 : zSt} {σ : zSt} (h : zKeC σ0 σ) : zpc (fX8_putTurned_59 σ) (fun r => zKeC σ0 (r)) := by
  unfold fX8_putTurned_59
  exact zpc_some h
theorem w_fX8_putTurned {σ0 : zSt} {σ : zSt} (h : zKeC σ0 σ) : zpc (fX8_putTurned σ) (fun r => zKeC σ0 (r)) := by
  unfold fX8_putTurned
  exact zpc_if (fun _ => zpc_bu (w_fX8_putName h) (fun σ4 hσ4 => zpc_some hσ4)) (fun _ => zpc_bu (w_fX8_putPlace h) (fun σ1 hσ1 => zpc_if (fun _ => w_fX8_putTurned_59 hσ1) (fun _ => zpc_if (fun _ => w_fX8_putTurned_59 hσ1) (fun _ => zpc_bu (w_fX8_putSign hσ1) (fun σ2 hσ2 => zpc_bu (w_fX8_putName hσ2) (fun σ3 hσ3 => w_fX8_putTurned_59 hσ3))))))
theorem w_fX8_putPair_28 {σ0 : zSt} {σ : zSt} (h : zKeC σ0 σ) : zpc (fX8_putPair_28 σ) (fun r => zKeC σ0 (r)) := by
  unfold fX8_putPair_28
  exact zpc_some h
theorem w_fX8_putPair {σ0 : zSt} {σ : zSt} {n1 : Nat} (h : zKeC σ0 σ) : zpc (fX8_putPair σ n1) (fun r => zKeC σ0 (r)) := by
  unfold fX8_putPair
  exact zpc_if (fun _ => zpc_bu (w_fX8_putHl h) (fun σ2 hσ2 => w_fX8_putPair_28 hσ2)) (fun _ => zpc_bu (w_fX8_putName h) (fun σ1 hσ1 => w_fX8_putPair_28 hσ1))
theorem w_fX8_putMeant_275 {σ0 : zSt} {σ : zSt} (h : zKeC σ0 σ) : zpc (fX8_putMeant_275 σ) (fun r => zKeC σ0 (r)) := by
  unfold fX8_putMeant_275
  exact zpc_some h
theorem w_fX8_putMeant_256 {σ0 : zSt} {σ : zSt} (h : zKeC σ0 σ) : zpc (fX8_putMeant_256 σ) (fun r => zKeC σ0 (r)) := by
  unfold fX8_putMeant_256
  exact zpc_bi (w_fX8_take h) (fun σ1 v2 hσ1 => zpc_bu (w_fX8_putWord hσ1) (fun σ3 hσ3 => w_fX8_putMeant_275 hσ3))
theorem w_fX8_putMeant {σ0 : zSt} {σ : zSt} {x1 : Int32} (h : zKeC σ0 σ) : zpc (fX8_putMeant σ x1) (fun r => zKeC σ0 (r)) := by
  unfold fX8_putMeant
  exact zpc_if (fun _ => zpc_bu (w_fX8_putSign h) (fun σ4 hσ4 => w_fX8_putMeant_275 hσ4)) (fun _ => zpc_if (fun _ => zpc_bu (w_fX8_putName h) (fun σ5 hσ5 => w_fX8_putMeant_275 hσ5)) (fun _ => zpc_if (fun _ => zpc_bu (w_fX8_putName h) (fun σ6 hσ6 => w_fX8_putMeant_275 hσ6)) (fun _ => zpc_if (fun _ => w_fX8_putMeant_256 h) (fun _ => zpc_if (fun _ => w_fX8_putMeant_256 h) (fun _ => zpc_if (fun _ => w_fX8_putMeant_256 h) (fun _ => zpc_if (fun _ => w_fX8_putMeant_256 h) (fun _ => zpc_if (fun _ => w_fX8_putMeant_256 h) (fun _ => zpc_if (fun _ => zpc_bu (w_fX8_putHl h) (fun σ7 hσ7 => w_fX8_putMeant_275 hσ7)) (fun _ => zpc_if (fun _ => w_fX8_putMeant_256 h) (fun _ => zpc_if (fun _ => w_fX8_putMeant_256 h) (fun _ => zpc_if (fun _ => w_fX8_putMeant_256 h) (fun _ => zpc_if (fun _ => zpc_bi (w_fX8_take h) (fun σ8 v9 hσ8 => zpc_bu (w_fX8_putByte hσ8) (fun σ10 hσ10 => w_fX8_putMeant_275 hσ10))) (fun _ => zpc_if (fun _ => w_fX8_putMeant_256 h) (fun _ => zpc_if (fun _ => zpc_bu (w_fX8_putPair h) (fun σ11 hσ11 => w_fX8_putMeant_275 hσ11)) (fun _ => zpc_if (fun _ => zpc_bu (w_fX8_putPair h) (fun σ12 hσ12 => w_fX8_putMeant_275 hσ12)) (fun _ => zpc_if (fun _ => w_fX8_putMeant_256 h) (fun _ => zpc_if (fun _ => w_fX8_putMeant_256 h) (fun _ => zpc_if (fun _ => zpc_bu (w_fX8_putTurned h) (fun σ13 hσ13 => w_fX8_putMeant_275 hσ13)) (fun _ => zpc_if (fun _ => w_fX8_putMeant_256 h) (fun _ => zpc_if (fun _ => zpc_bu (w_fX8_putByte h) (fun σ14 hσ14 => w_fX8_putMeant_275 hσ14)) (fun _ => zpc_if (fun _ => zpc_bi (w_fX8_take h) (fun σ15 v16 hσ15 => zpc_bi (w_fX8_take hσ15) (fun σ17 v18 hσ17 => zpc_bu (w_fX8_putWord hσ17) (fun σ19 hσ19 => w_fX8_putMeant_275 hσ19)))) (fun _ => zpc_if (fun _ => w_fX8_putMeant_256 h) (fun _ => zpc_if (fun _ => zpc_bu (w_fX8_putOne h) (fun σ20 hσ20 => w_fX8_putMeant_275 hσ20)) (fun _ => zpc_if (fun _ => zpc_bu (w_fX8_putOne h) (fun σ21 hσ21 => w_fX8_putMeant_275 hσ21)) (fun _ => w_fX8_putMeant_256 h)))))))))))))))))))))))))
theorem w_fX8_put_28 {σ0 : zSt} {k4 : zSt → Nat → Int32 → Int32 → Option (zSt)} (hk4 : ∀ (y0 : zSt) (y1 : Nat) (y2 : Int32) (y3 : Int32), zKeC σ0 y0 → zpc (k4 y0 y1 y2 y3) (fun r => zKeC σ0 (r))) {σ : zSt} {n1 : Nat} {x3 : Int32} {s0 : Int32} {s1 : Int32} (h : zKeC σ0 σ) : zpc (fX8_put_28 k4 σ n1 x3 s0 s1) (fun r => zKeC σ0 (r)) := by
  unfold fX8_put_28
  exact zpc_bv (fun v1 _ => zpc_bv (fun v2 _ => hk4 _ _ _ _ h))
theorem w_fX8_put_110 {σ0 : zSt} {k41 : zSt → Nat → Int32 → Int32 → Int32 → Option (zSt)} (hk41 : ∀ (y0 : zSt) (y1 : Nat) (y2 : Int32) (y3 : Int32) (y4 : Int32), zKeC σ0 y0 → zpc (k41 y0 y1 y2 y3 y4) (fun r => zKeC σ0 (r))) {σ : zSt} {n1 : Nat} {x2 : Int32} {x3 : Int32} {x4 : Int32} (h : zKeC σ0 σ) : zpc (fX8_put_110 k41 σ n1 x2 x3 x4) (fun r => zKeC σ0 (r)) := by
  unfold fX8_put_110
  exact zpc_bv (fun v3 _ => hk41 _ _ _ _ _ h)
theorem w_fX8_put_104 {σ0 : zSt} {k41 : zSt → Nat → Int32 → Int32 → Int32 → Option (zSt)} (hk41 : ∀ (y0 : zSt) (y1 : Nat) (y2 : Int32) (y3 : Int32) (y4 : Int32), zKeC σ0 y0 → zpc (k41 y0 y1 y2 y3 y4) (fun r => zKeC σ0 (r))) {σ : zSt} {n1 : Nat} {x2 : Int32} {x3 : Int32} {x4 : Int32} {x5 : Int32} (h : zKeC σ0 σ) : zpc (fX8_put_104 k41 σ n1 x2 x3 x4 x5) (fun r => zKeC σ0 (r)) := by
  unfold fX8_put_104
  exact zpc_bu (w_fX8_putSign h) (fun σ4 hσ4 => w_fX8_put_110 hk41 hσ4)
theorem w_fX8_put_41_body {σ0 : zSt} {k41 : zSt → Nat → Int32 → Int32 → Int32 → Option (zSt)} (hk41 : ∀ (y0 : zSt) (y1 : Nat) (y2 : Int32) (y3 : Int32) (y4 : Int32), zKeC σ0 y0 → zpc (k41 y0 y1 y2 y3 y4) (fun r => zKeC σ0 (r))) {σ : zSt} {n1 : Nat} {x2 : Int32} {x3 : Int32} {x4 : Int32} (h : zKeC σ0 σ) : zpc (fX8_put_41_body k41 σ n1 x2 x3 x4) (fun r => zKeC σ0 (r)) := by
  unfold fX8_put_41_body
  exact zpc_ck (zpc_if (fun _ => zpc_some h) (fun _ => zpc_ck (zpc_ck (zpc_bv (fun v5 _ => zpc_if (fun _ => zpc_bv (fun v7 _ => w_fX8_put_110 hk41 h)) (fun _ => zpc_ck (zpc_if (fun _ => zpc_if (fun _ => w_fX8_put_104 hk41 h) (fun _ => zpc_if (fun _ => w_fX8_put_104 hk41 h) (fun _ => zpc_bu (w_fX8_putMeant h) (fun σ6 hσ6 => w_fX8_put_110 hk41 hσ6)))) (fun _ => w_fX8_put_110 hk41 h))))))))
theorem w_fX8_put_41 {σ0 : zSt} : ∀ (n : Nat) (y0 : zSt) (y1 : Nat) (y2 : Int32) (y3 : Int32) (y4 : Int32), zKeC σ0 y0 → zpc (fX8_put_41 n y0 y1 y2 y3 y4) (fun r => zKeC σ0 (r)) := by
  intro n
  induction n with
  | zero => intro y0 y1 y2 y3 y4 h; exact zpc_none
  | succ n ih => intro y0 y1 y2 y3 y4 h; exact w_fX8_put_41_body ih h
theorem w_fX8_put_4_body {σ0 : zSt} {k4 : zSt → Nat → Int32 → Int32 → Option (zSt)} (hk4 : ∀ (y0 : zSt) (y1 : Nat) (y2 : Int32) (y3 : Int32), zKeC σ0 y0 → zpc (k4 y0 y1 y2 y3) (fun r => zKeC σ0 (r))) {σ : zSt} {n1 : Nat} {x2 : Int32} {x3 : Int32} (h : zKeC σ0 σ) : zpc (fX8_put_4_body k4 σ n1 x2 x3) (fun r => zKeC σ0 (r)) := by
  unfold fX8_put_4_body
  exact zpc_ck (zpc_if (fun _ => w_fX8_put_41 _ _ _ _ _ _ h) (fun _ => zpc_ck (zpc_ck (zpc_if (fun _ => w_fX8_put_28 hk4 h) (fun _ => w_fX8_put_28 hk4 h)))))
theorem w_fX8_put_4 {σ0 : zSt} : ∀ (n : Nat) (y0 : zSt) (y1 : Nat) (y2 : Int32) (y3 : Int32), zKeC σ0 y0 → zpc (fX8_put_4 n y0 y1 y2 y3) (fun r => zKeC σ0 (r)) := by
  intro n
  induction n with
  | zero => intro y0 y1 y2 y3 h; exact zpc_none
  | succ n ih => intro y0 y1 y2 y3 h; exact w_fX8_put_4_body ih h
theorem w_fX8_put {σ0 : zSt} {σ : zSt} {n1 : Nat} (h : zKeC σ0 σ) : zpc (fX8_put σ n1) (fun r => zKeC σ0 (r)) := by
  unfold fX8_put
  exact w_fX8_put_4 _ _ _ _ _ h
theorem w_fX8_split {σ0 : zSt} {σ : zSt} {x1 : Int32} (h : zKeC σ0 σ) : zpc (fX8_split σ x1) (fun r => zKeC σ0 (r)) := by
  unfold fX8_split
  exact zpc_bs (zKeC.wi h (by decide)) (fun σ1 hσ1 => zpc_bs (zKeC.wi hσ1 (by decide)) (fun σ2 hσ2 => zpc_bs (zKeC.wi hσ2 (by decide)) (fun σ3 hσ3 => zpc_some hσ3)))
theorem w_fX8_turnPatterns {σ0 : zSt} {σ : zSt} (h : zKeC σ0 σ) : zpc (fX8_turnPatterns σ) (fun r => zKeC σ0 (r.1)) := by
  unfold fX8_turnPatterns
  exact zpc_if (fun _ => zpc_some h) (fun _ => zpc_if (fun _ => zpc_some h) (fun _ => zpc_if (fun _ => zpc_some h) (fun _ => zpc_some h)))
theorem w_fX8_blockPatterns_17 {σ0 : zSt} {σ : zSt} {s0 : Int32} (h : zKeC σ0 σ) : zpc (fX8_blockPatterns_17 σ s0) (fun r => zKeC σ0 (r.1)) := by
  unfold fX8_blockPatterns_17
  exact zpc_if (fun _ => zpc_some h) (fun _ => zpc_if (fun _ => zpc_some h) (fun _ => zpc_if (fun _ => zpc_some h) (fun _ => zpc_if (fun _ => zpc_some h) (fun _ => zpc_some h))))
theorem w_fX8_blockPatterns {σ0 : zSt} {σ : zSt} (h : zKeC σ0 σ) : zpc (fX8_blockPatterns σ) (fun r => zKeC σ0 (r.1)) := by
  unfold fX8_blockPatterns
  exact zpc_if (fun _ => w_fX8_blockPatterns_17 h) (fun _ => w_fX8_blockPatterns_17 h)
theorem w_fX8_morePatterns_114 {σ0 : zSt} {σ : zSt} {s0 : Nat} (h : zKeC σ0 σ) : zpc (fX8_morePatterns_114 σ s0) (fun r => zKeC σ0 (r.1)) := by
  unfold fX8_morePatterns_114
  exact zpc_some h
theorem w_fX8_morePatterns_89 {σ0 : zSt} {σ : zSt} {s0 : Nat} (h : zKeC σ0 σ) : zpc (fX8_morePatterns_89 σ s0) (fun r => zKeC σ0 (r.1)) := by
  unfold fX8_morePatterns_89
  exact zpc_some h
theorem w_fX8_morePatterns_72 {σ0 : zSt} {σ : zSt} {s0 : Nat} (h : zKeC σ0 σ) : zpc (fX8_morePatterns_72 σ s0) (fun r => zKeC σ0 (r.1)) := by
  unfold fX8_morePatterns_72
  exact zpc_some h
theorem w_fX8_morePatterns {σ0 : zSt} {σ : zSt} (h : zKeC σ0 σ) : zpc (fX8_morePatterns σ) (fun r => zKeC σ0 (r.1)) := by
  unfold fX8_morePatterns
  exact zpc_if (fun _ => zpc_if (fun _ => zpc_if (fun _ => w_fX8_morePatterns_72 h) (fun _ => w_fX8_morePatterns_72 h)) (fun _ => zpc_if (fun _ => zpc_if (fun _ => w_fX8_morePatterns_89 h) (fun _ => w_fX8_morePatterns_89 h)) (fun _ => zpc_if (fun _ => zpc_some h) (fun _ => zpc_if (fun _ => zpc_some h) (fun _ => zpc_if (fun _ => zpc_some h) (fun _ => zpc_if (fun _ => zpc_if (fun _ => w_fX8_morePatterns_114 h) (fun _ => w_fX8_morePatterns_114 h)) (fun _ => zpc_if (fun _ => zpc_some h) (fun _ => zpc_some h)))))))) (fun _ => zpc_some h)
theorem w_fX8_lastPatterns {σ0 : zSt} {σ : zSt} (h : zKeC σ0 σ) : zpc (fX8_lastPatterns σ) (fun r => zKeC σ0 (r.1)) := by
  unfold fX8_lastPatterns
  exact zpc_if (fun _ => zpc_some h) (fun _ => zpc_if (fun _ => zpc_some h) (fun _ => zpc_if (fun _ => zpc_some h) (fun _ => zpc_if (fun _ => zpc_some h) (fun _ => zpc_if (fun _ => zpc_some h) (fun _ => zpc_if (fun _ => zpc_some h) (fun _ => zpc_if (fun _ => zpc_some h) (fun _ => zpc_some h)))))))
theorem w_fX8_firstPatterns {σ0 : zSt} {σ : zSt} (h : zKeC σ0 σ) : zpc (fX8_firstPatterns σ) (fun r => zKeC σ0 (r.1)) := by
  unfold fX8_firstPatterns
  exact zpc_if (fun _ => zpc_some h) (fun _ => zpc_if (fun _ => zpc_some h) (fun _ => zpc_if (fun _ => zpc_some h) (fun _ => zpc_if (fun _ => zpc_some h) (fun _ => zpc_if (fun _ => zpc_some h) (fun _ => zpc_if (fun _ => zpc_some h) (fun _ => zpc_if (fun _ => zpc_some h) (fun _ => zpc_some h)))))))
theorem w_fX8_patternsOf_23 {σ0 : zSt} {σ : zSt} {s0 : Int32} (h : zKeC σ0 σ) : zpc (fX8_patternsOf_23 σ s0) (fun r => zKeC σ0 (r.1)) := by
  unfold fX8_patternsOf_23
  exact zpc_bs (zKeC.wi h (by decide)) (fun σ1 hσ1 => zpc_bi (w_fX8_take hσ1) (fun σ2 v3 hσ2 => zpc_bu (w_fX8_split hσ2) (fun σ4 hσ4 => zpc_bk (w_fX8_turnPatterns hσ4) (fun σ5 v6 hσ5 => zpc_some hσ5))))
theorem w_fX8_patternsOf_73 {σ0 : zSt} {σ : zSt} {s0 : Nat} (h : zKeC σ0 σ) : zpc (fX8_patternsOf_73 σ s0) (fun r => zKeC σ0 (r.1)) := by
  unfold fX8_patternsOf_73
  exact zpc_some h
theorem w_fX8_patternsOf_126 {σ0 : zSt} {σ : zSt} {s0 : Nat} (h : zKeC σ0 σ) : zpc (fX8_patternsOf_126 σ s0) (fun r => zKeC σ0 (r.1)) := by
  unfold fX8_patternsOf_126
  exact zpc_some h
theorem w_fX8_patternsOf {σ0 : zSt} {σ : zSt} {x1 : Int32} (h : zKeC σ0 σ) : zpc (fX8_patternsOf σ x1) (fun r => zKeC σ0 (r.1)) := by
  unfold fX8_patternsOf
  exact zpc_if (fun _ => zpc_if (fun _ => w_fX8_patternsOf_23 h) (fun _ => zpc_bi (w_fX8_take h) (fun σ19 v20 hσ19 => w_fX8_patternsOf_23 hσ19))) (fun _ => zpc_if (fun _ => zpc_bi (w_fX8_take h) (fun σ12 v13 hσ12 => zpc_bu (w_fX8_split hσ12) (fun σ14 hσ14 => zpc_if (fun _ => zpc_bk (w_fX8_blockPatterns hσ14) (fun σ17 v18 hσ17 => w_fX8_patternsOf_73 hσ17)) (fun _ => zpc_bk (w_fX8_morePatterns hσ14) (fun σ15 v16 hσ15 => w_fX8_patternsOf_73 hσ15))))) (fun _ => zpc_bu (w_fX8_split h) (fun σ7 hσ7 => zpc_if (fun _ => zpc_bk (w_fX8_firstPatterns hσ7) (fun σ8 v9 hσ8 => zpc_some hσ8)) (fun _ => zpc_if (fun _ => zpc_if (fun _ => w_fX8_patternsOf_126 hσ7) (fun _ => w_fX8_patternsOf_126 hσ7)) (fun _ => zpc_if (fun _ => zpc_some hσ7) (fun _ => zpc_bk (w_fX8_lastPatterns hσ7) (fun σ10 v11 hσ10 => zpc_some hσ10)))))))
theorem w_fX8_write_82 {σ0 : zSt} {σ : zSt} (h : zKeC σ0 σ) : zpc (fX8_write_82 σ) (fun r => zKeC σ0 (r.1)) := by
  unfold fX8_write_82
  exact zpc_bu (w_fX8_put h) (fun σ1 hσ1 => zpc_some hσ1)
theorem w_fX8_write_124 {σ0 : zSt} {σ : zSt} {x2 : Int32} (h : zKeC σ0 σ) : zpc (fX8_write_124 σ x2) (fun r => zKeC σ0 (r.1)) := by
  unfold fX8_write_124
  exact zpc_bk (w_fX8_patternsOf h) (fun σ2 v3 hσ2 => zpc_bu (w_fX8_put hσ2) (fun σ4 hσ4 => zpc_some hσ4))
theorem w_fX8_write_108 {σ0 : zSt} {σ : zSt} {s0 : Int32} (h : zKeC σ0 σ) : zpc (fX8_write_108 σ s0) (fun r => zKeC σ0 (r.1)) := by
  unfold fX8_write_108
  exact zpc_bs (zKeC.wi h (by decide)) (fun σ5 hσ5 => zpc_bi (w_fX8_take hσ5) (fun σ6 v7 hσ6 => zpc_bi (w_fX5_meansPlace hσ6) (fun σ8 v9 hσ8 => zpc_ck (zpc_bs (zKeC.wi hσ8 (by decide)) (fun σ10 hσ10 => w_fX8_write_124 hσ10)))))
theorem w_fX8_write_47 {σ0 : zSt} {σ : zSt} {x2 : Int32} (h : zKeC σ0 σ) : zpc (fX8_write_47 σ x2) (fun r => zKeC σ0 (r.1)) := by
  unfold fX8_write_47
  exact zpc_bi (w_fX2_read h) (fun σ11 v12 hσ11 => zpc_if (fun _ => w_fX8_write_82 hσ11) (fun _ => zpc_if (fun _ => w_fX8_write_82 hσ11) (fun _ => zpc_if (fun _ => w_fX8_write_82 hσ11) (fun _ => zpc_if (fun _ => w_fX8_write_108 hσ11) (fun _ => w_fX8_write_108 hσ11)))))
theorem w_fX8_write {σ0 : zSt} {σ : zSt} {x1 : Int32} (h : zKeC σ0 σ) : zpc (fX8_write σ x1) (fun r => zKeC σ0 (r.1)) := by
  unfold fX8_write
  exact zpc_bs (zKeC.wi h (by decide)) (fun σ13 hσ13 => zpc_bs (zKeC.wi hσ13 (by decide)) (fun σ14 hσ14 => zpc_bs (zKeC.wi hσ14 (by decide)) (fun σ15 hσ15 => zpc_bs (zKeC.wi hσ15 (by decide)) (fun σ16 hσ16 => zpc_ck (zpc_bs (zKeC.wi hσ16 (by decide)) (fun σ17 hσ17 => zpc_bi (w_fX8_take hσ17) (fun σ18 v19 hσ18 => zpc_if (fun _ => w_fX8_write_47 hσ18) (fun _ => zpc_if (fun _ => w_fX8_write_47 hσ18) (fun _ => w_fX8_write_124 hσ18)))))))))
theorem w_fX8_eightFrom_39 {σ0 : zSt} {k6 : zSt → Int32 → Int64 → Int32 → Option (zSt × Int64)} (hk6 : ∀ (y0 : zSt) (y1 : Int32) (y2 : Int64) (y3 : Int32), zKeC σ0 y0 → zpc (k6 y0 y1 y2 y3) (fun r => zKeC σ0 (r.1))) {σ : zSt} {x1 : Int32} {x2 : Int64} {x4 : Int32} {s0 : Int32} (h : zKeC σ0 σ) : zpc (fX8_eightFrom_39 k6 σ x1 x2 x4 s0) (fun r => zKeC σ0 (r.1)) := by
  unfold fX8_eightFrom_39
  exact zpc_bv (fun v1 _ => zpc_bv (fun v2 _ => hk6 _ _ _ _ h))
theorem w_fX8_eightFrom_38 {σ0 : zSt} {k6 : zSt → Int32 → Int64 → Int32 → Option (zSt × Int64)} (hk6 : ∀ (y0 : zSt) (y1 : Int32) (y2 : Int64) (y3 : Int32), zKeC σ0 y0 → zpc (k6 y0 y1 y2 y3) (fun r => zKeC σ0 (r.1))) {σ : zSt} {x1 : Int32} {x2 : Int64} {x4 : Int32} (h : zKeC σ0 σ) : zpc (fX8_eightFrom_38 k6 σ x1 x2 x4) (fun r => zKeC σ0 (r.1)) := by
  unfold fX8_eightFrom_38
  exact w_fX8_eightFrom_39 hk6 h
theorem w_fX8_eightFrom_6_body {σ0 : zSt} {k6 : zSt → Int32 → Int64 → Int32 → Option (zSt × Int64)} (hk6 : ∀ (y0 : zSt) (y1 : Int32) (y2 : Int64) (y3 : Int32), zKeC σ0 y0 → zpc (k6 y0 y1 y2 y3) (fun r => zKeC σ0 (r.1))) {σ : zSt} {x1 : Int32} {x2 : Int64} {x4 : Int32} (h : zKeC σ0 σ) : zpc (fX8_eightFrom_6_body k6 σ x1 x2 x4) (fun r => zKeC σ0 (r.1)) := by
  unfold fX8_eightFrom_6_body
  exact zpc_if (fun _ => zpc_some h) (fun _ => zpc_if (fun _ => w_fX8_eightFrom_38 hk6 h) (fun _ => zpc_if (fun _ => w_fX8_eightFrom_38 hk6 h) (fun _ => zpc_ck (w_fX8_eightFrom_39 hk6 h))))
theorem w_fX8_eightFrom_6 {σ0 : zSt} : ∀ (n : Nat) (y0 : zSt) (y1 : Int32) (y2 : Int64) (y3 : Int32), zKeC σ0 y0 → zpc (fX8_eightFrom_6 n y0 y1 y2 y3) (fun r => zKeC σ0 (r.1)) := by
  intro n
  induction n with
  | zero => intro y0 y1 y2 y3 h; exact zpc_none
  | succ n ih => intro y0 y1 y2 y3 h; exact w_fX8_eightFrom_6_body ih h
theorem w_fX8_eightFrom {σ0 : zSt} {σ : zSt} {x1 : Int32} (h : zKeC σ0 σ) : zpc (fX8_eightFrom σ x1) (fun r => zKeC σ0 (r.1)) := by
  unfold fX8_eightFrom
  exact w_fX8_eightFrom_6 _ _ _ _ _ h
theorem w_fJ7_fill_53178_k21_5_body {σ0 : zSt} {k5 : zSt → Int32 → Int32 → Int32 → Option (zSt)} (hk5 : ∀ (y0 : zSt) (y1 : Int32) (y2 : Int32) (y3 : Int32), zKeC σ0 y0 → zpc (k5 y0 y1 y2 y3) (fun r => zKeC σ0 (r))) {σ : zSt} {x1 : Int32} {x2 : Int32} {x3 : Int32} (h : zKeC σ0 σ) : zpc (fJ7_fill_53178_k21_5_body k5 σ x1 x2 x3) (fun r => zKeC σ0 (r)) := by
  unfold fJ7_fill_53178_k21_5_body
  exact zpc_if (fun _ => zpc_some h) (fun _ => zpc_ck (zpc_bs (zKeC.wi h (by decide)) (fun σ1 hσ1 => zpc_bv (fun v2 _ => hk5 _ _ _ _ hσ1))))
theorem w_fJ7_fill_53178_k21_5 {σ0 : zSt} : ∀ (n : Nat) (y0 : zSt) (y1 : Int32) (y2 : Int32) (y3 : Int32), zKeC σ0 y0 → zpc (fJ7_fill_53178_k21_5 n y0 y1 y2 y3) (fun r => zKeC σ0 (r)) := by
  intro n
  induction n with
  | zero => intro y0 y1 y2 y3 h; exact zpc_none
  | succ n ih => intro y0 y1 y2 y3 h; exact w_fJ7_fill_53178_k21_5_body ih h
theorem w_fJ7_fill_53178_k21 {σ0 : zSt} {σ : zSt} {x1 : Int32} (h : zKeC σ0 σ) : zpc (fJ7_fill_53178_k21 σ x1) (fun r => zKeC σ0 (r)) := by
  unfold fJ7_fill_53178_k21
  exact w_fJ7_fill_53178_k21_5 _ _ _ _ _ h
theorem w_fJ7_fill_53178_k23_5_body {σ0 : zSt} {k5 : zSt → Int32 → Int32 → Int32 → Option (zSt)} (hk5 : ∀ (y0 : zSt) (y1 : Int32) (y2 : Int32) (y3 : Int32), zKeC σ0 y0 → zpc (k5 y0 y1 y2 y3) (fun r => zKeC σ0 (r))) {σ : zSt} {x1 : Int32} {x2 : Int32} {x3 : Int32} (h : zKeC σ0 σ) : zpc (fJ7_fill_53178_k23_5_body k5 σ x1 x2 x3) (fun r => zKeC σ0 (r)) := by
  unfold fJ7_fill_53178_k23_5_body
  exact zpc_if (fun _ => zpc_some h) (fun _ => zpc_ck (zpc_bs (zKeC.wi h (by decide)) (fun σ1 hσ1 => zpc_bv (fun v2 _ => hk5 _ _ _ _ hσ1))))
theorem w_fJ7_fill_53178_k23_5 {σ0 : zSt} : ∀ (n : Nat) (y0 : zSt) (y1 : Int32) (y2 : Int32) (y3 : Int32), zKeC σ0 y0 → zpc (fJ7_fill_53178_k23_5 n y0 y1 y2 y3) (fun r => zKeC σ0 (r)) := by
  intro n
  induction n with
  | zero => intro y0 y1 y2 y3 h; exact zpc_none
  | succ n ih => intro y0 y1 y2 y3 h; exact w_fJ7_fill_53178_k23_5_body ih h
theorem w_fJ7_fill_53178_k23 {σ0 : zSt} {σ : zSt} {x1 : Int32} (h : zKeC σ0 σ) : zpc (fJ7_fill_53178_k23 σ x1) (fun r => zKeC σ0 (r)) := by
  unfold fJ7_fill_53178_k23
  exact w_fJ7_fill_53178_k23_5 _ _ _ _ _ h
theorem w_fX9_clear {σ0 : zSt} {σ : zSt} (h : zKeC σ0 σ) : zpc (fX9_clear σ) (fun r => zKeC σ0 (r)) := by
  unfold fX9_clear
  exact zpc_bu (w_fJ7_fill_53178_k21 h) (fun σ1 hσ1 => zpc_bu (w_fJ7_fill_53178_k23 hσ1) (fun σ2 hσ2 => zpc_some hσ2))
theorem w_fX9_keep {σ0 : zSt} {σ : zSt} (h : zKeC σ0 σ) : zpc (fX9_keep σ) (fun r => zKeC σ0 (r)) := by
  unfold fX9_keep
  exact zpc_ck (zpc_bs (zKeC.ci h (by decide)) (fun σ1 hσ1 => zpc_ck (zpc_bs (zKeC.ci hσ1 (by decide)) (fun σ2 hσ2 => zpc_some hσ2))))
theorem w_fX9_bringBack {σ0 : zSt} {σ : zSt} (h : zKeC σ0 σ) : zpc (fX9_bringBack σ) (fun r => zKeC σ0 (r)) := by
  unfold fX9_bringBack
  exact zpc_ck (zpc_bs (zKeC.ci h (by decide)) (fun σ1 hσ1 => zpc_ck (zpc_bs (zKeC.ci hσ1 (by decide)) (fun σ2 hσ2 => zpc_some hσ2))))
theorem w_fX9_has_27 {σ0 : zSt} {σ : zSt} {s0 : Int32} (h : zKeC σ0 σ) : zpc (fX9_has_27 σ s0) (fun r => zKeC σ0 (r.1)) := by
  unfold fX9_has_27
  exact zpc_ck (zpc_some h)
theorem w_fX9_has_26 {σ0 : zSt} {σ : zSt} (h : zKeC σ0 σ) : zpc (fX9_has_26 σ) (fun r => zKeC σ0 (r.1)) := by
  unfold fX9_has_26
  exact w_fX9_has_27 h
theorem w_fX9_has_22 {σ0 : zSt} {σ : zSt} (h : zKeC σ0 σ) : zpc (fX9_has_22 σ) (fun r => zKeC σ0 (r.1)) := by
  unfold fX9_has_22
  exact w_fX9_has_27 h
theorem w_fX9_has_10 {σ0 : zSt} {σ : zSt} {x0 : Int32} (h : zKeC σ0 σ) : zpc (fX9_has_10 σ x0) (fun r => zKeC σ0 (r.1)) := by
  unfold fX9_has_10
  exact zpc_if (fun _ => w_fX9_has_26 h) (fun _ => zpc_if (fun _ => w_fX9_has_26 h) (fun _ => w_fX9_has_22 h))
theorem w_fX9_has {σ0 : zSt} {σ : zSt} {x0 : Int32} (h : zKeC σ0 σ) : zpc (fX9_has σ x0) (fun r => zKeC σ0 (r.1)) := by
  unfold fX9_has
  exact zpc_if (fun _ => w_fX9_has_10 h) (fun _ => zpc_if (fun _ => w_fX9_has_22 h) (fun _ => w_fX9_has_10 h))
theorem w_fX9_asks_54 {σ0 : zSt} {σ : zSt} {s0 : Int32} (h : zKeC σ0 σ) : zpc (fX9_asks_54 σ s0) (fun r => zKeC σ0 (r.1)) := by
  unfold fX9_asks_54
  exact zpc_ck (zpc_some h)
theorem w_fX9_asks_53 {σ0 : zSt} {σ : zSt} (h : zKeC σ0 σ) : zpc (fX9_asks_53 σ) (fun r => zKeC σ0 (r.1)) := by
  unfold fX9_asks_53
  exact w_fX9_asks_54 h
theorem w_fX9_asks_49 {σ0 : zSt} {σ : zSt} (h : zKeC σ0 σ) : zpc (fX9_asks_49 σ) (fun r => zKeC σ0 (r.1)) := by
  unfold fX9_asks_49
  exact w_fX9_asks_54 h
theorem w_fX9_asks_26 {σ0 : zSt} {σ : zSt} (h : zKeC σ0 σ) : zpc (fX9_asks_26 σ) (fun r => zKeC σ0 (r.1)) := by
  unfold fX9_asks_26
  exact zpc_ck (zpc_if (fun _ => w_fX9_asks_53 h) (fun _ => zpc_ck (zpc_if (fun _ => w_fX9_asks_49 h) (fun _ => w_fX9_asks_53 h))))
theorem w_fX9_asks {σ0 : zSt} {σ : zSt} (h : zKeC σ0 σ) : zpc (fX9_asks σ) (fun r => zKeC σ0 (r.1)) := by
  unfold fX9_asks
  exact zpc_ck (zpc_if (fun _ => w_fX9_asks_26 h) (fun _ => zpc_ck (zpc_if (fun _ => w_fX9_asks_26 h) (fun _ => w_fX9_asks_49 h))))
theorem w_fX9_value_85 {σ0 : zSt} {σ : zSt} {x1 : Int32} (h : zKeC σ0 σ) : zpc (fX9_value_85 σ x1) (fun r => zKeC σ0 (r.1)) := by
  unfold fX9_value_85
  exact zpc_bi (w_fX9_held h) (fun σ1 v2 hσ1 => zpc_some hσ1)
theorem w_fX9_value_64 {σ0 : zSt} {σ : zSt} {s0 : Int32} (h : zKeC σ0 σ) : zpc (fX9_value_64 σ s0) (fun r => zKeC σ0 (r.1)) := by
  unfold fX9_value_64
  exact zpc_some h
theorem w_fX9_value {σ0 : zSt} {σ : zSt} {x1 : Int32} (h : zKeC σ0 σ) : zpc (fX9_value σ x1) (fun r => zKeC σ0 (r.1)) := by
  unfold fX9_value
  exact zpc_if (fun _ => zpc_bi (w_fX9_asks h) (fun σ3 v4 hσ3 => zpc_if (fun _ => w_fX9_value_64 hσ3) (fun _ => w_fX9_value_64 hσ3))) (fun _ => zpc_if (fun _ => w_fX9_value_85 h) (fun _ => zpc_if (fun _ => w_fX9_value_85 h) (fun _ => zpc_if (fun _ => w_fX9_value_85 h) (fun _ => zpc_if (fun _ => w_fX9_value_85 h) (fun _ => zpc_if (fun _ => zpc_bi (w_fX9_mode h) (fun σ5 v6 hσ5 => zpc_some hσ5)) (fun _ => zpc_if (fun _ => zpc_bi (w_fX9_height h) (fun σ7 v8 hσ7 => zpc_some hσ7)) (fun _ => zpc_if (fun _ => zpc_bi (w_fX9_hCount h) (fun σ9 v10 hσ9 => zpc_some hσ9)) (fun _ => zpc_if (fun _ => zpc_bi (w_fX9_vCount h) (fun σ11 v12 hσ11 => zpc_some hσ11)) (fun _ => w_fX9_value_85 h)))))))))
theorem w_fX9_eightFrom_6_body {σ0 : zSt} {k6 : zSt → Int32 → Int64 → Int32 → Option (zSt × Int64)} (hk6 : ∀ (y0 : zSt) (y1 : Int32) (y2 : Int64) (y3 : Int32), zKeC σ0 y0 → zpc (k6 y0 y1 y2 y3) (fun r => zKeC σ0 (r.1))) {σ : zSt} {x1 : Int32} {x2 : Int64} {x4 : Int32} (h : zKeC σ0 σ) : zpc (fX9_eightFrom_6_body k6 σ x1 x2 x4) (fun r => zKeC σ0 (r.1)) := by
  unfold fX9_eightFrom_6_body
  exact zpc_if (fun _ => zpc_some h) (fun _ => zpc_ck (zpc_bv (fun v1 _ => zpc_bv (fun v2 _ => hk6 _ _ _ _ h))))
theorem w_fX9_eightFrom_6 {σ0 : zSt} : ∀ (n : Nat) (y0 : zSt) (y1 : Int32) (y2 : Int64) (y3 : Int32), zKeC σ0 y0 → zpc (fX9_eightFrom_6 n y0 y1 y2 y3) (fun r => zKeC σ0 (r.1)) := by
  intro n
  induction n with
  | zero => intro y0 y1 y2 y3 h; exact zpc_none
  | succ n ih => intro y0 y1 y2 y3 h; exact w_fX9_eightFrom_6_body ih h
theorem w_fX9_eightFrom {σ0 : zSt} {σ : zSt} {x1 : Int32} (h : zKeC σ0 σ) : zpc (fX9_eightFrom σ x1) (fun r => zKeC σ0 (r.1)) := by
  unfold fX9_eightFrom
  exact w_fX9_eightFrom_6 _ _ _ _ _ h
theorem w_fX9_passes {σ0 : zSt} {σ : zSt} {x1 : Int32} (h : zKeC σ0 σ) : zpc (fX9_passes σ x1) (fun r => zKeC σ0 (r.1)) := by
  unfold fX9_passes
  exact zpc_ck (zpc_ck (zpc_bs (zKeC.wi h (by decide)) (fun σ1 hσ1 => zpc_ck (zpc_if (fun _ => zpc_ck (zpc_ck (zpc_bs (zKeC.wi hσ1 (by decide)) (fun σ2 hσ2 => zpc_ck (zpc_some hσ2))))) (fun _ => zpc_ck (zpc_some hσ1))))))
theorem w_fX9_goesToNextLine_159 {σ0 : zSt} {σ : zSt} {x2 : Int32} (h : zKeC σ0 σ) : zpc (fX9_goesToNextLine_159 σ x2) (fun r => zKeC σ0 (r.1)) := by
  unfold fX9_goesToNextLine_159
  exact zpc_ck (zpc_some h)
theorem w_fX9_goesToNextLine_133 {σ0 : zSt} {σ : zSt} {x1 : Int32} {x2 : Int32} (h : zKeC σ0 σ) : zpc (fX9_goesToNextLine_133 σ x1 x2) (fun r => zKeC σ0 (r.1)) := by
  unfold fX9_goesToNextLine_133
  exact zpc_ck (zpc_if (fun _ => zpc_ck (zpc_ck (zpc_bs (zKeC.wi h (by decide)) (fun σ1 hσ1 => w_fX9_goesToNextLine_159 hσ1)))) (fun _ => w_fX9_goesToNextLine_159 h))
theorem w_fX9_goesToNextLine_106 {σ0 : zSt} {σ : zSt} {x1 : Int32} {s0 : Int32} (h : zKeC σ0 σ) : zpc (fX9_goesToNextLine_106 σ x1 s0) (fun r => zKeC σ0 (r.1)) := by
  unfold fX9_goesToNextLine_106
  exact zpc_if (fun _ => w_fX9_goesToNextLine_133 h) (fun _ => zpc_ck (zpc_bs (zKeC.wi h (by decide)) (fun σ2 hσ2 => zpc_ck (zpc_ck (zpc_bs (zKeC.wi hσ2 (by decide)) (fun σ3 hσ3 => w_fX9_goesToNextLine_133 hσ3))))))
theorem w_fX9_goesToNextLine_76 {σ0 : zSt} {σ : zSt} {x1 : Int32} (h : zKeC σ0 σ) : zpc (fX9_goesToNextLine_76 σ x1) (fun r => zKeC σ0 (r.1)) := by
  unfold fX9_goesToNextLine_76
  exact zpc_ck (zpc_ck (zpc_bs (zKeC.wi h (by decide)) (fun σ4 hσ4 => zpc_ck (zpc_if (fun _ => w_fX9_goesToNextLine_106 hσ4) (fun _ => w_fX9_goesToNextLine_106 hσ4)))))
theorem w_fX9_goesToNextLine {σ0 : zSt} {σ : zSt} (h : zKeC σ0 σ) : zpc (fX9_goesToNextLine σ) (fun r => zKeC σ0 (r.1)) := by
  unfold fX9_goesToNextLine
  exact zpc_bi (w_fX9_height h) (fun σ5 v6 hσ5 => zpc_ck (zpc_if (fun _ => zpc_ck (zpc_ck (zpc_bs (zKeC.wi hσ5 (by decide)) (fun σ7 hσ7 => zpc_ck (zpc_if (fun _ => w_fX9_goesToNextLine_76 hσ7) (fun _ => zpc_ck (zpc_ck (zpc_bs (zKeC.wi hσ7 (by decide)) (fun σ8 hσ8 => zpc_ck (zpc_bs (zKeC.wi hσ8 (by decide)) (fun σ9 hσ9 => w_fX9_goesToNextLine_76 hσ9))))))))))) (fun _ => zpc_ck (zpc_ck (zpc_bs (zKeC.wi hσ5 (by decide)) (fun σ10 hσ10 => w_fX9_goesToNextLine_76 hσ10))))))
theorem w_fJ7_fill_53178_k32_5_body {σ0 : zSt} {k5 : zSt → Int32 → Int32 → Int32 → Option (zSt)} (hk5 : ∀ (y0 : zSt) (y1 : Int32) (y2 : Int32) (y3 : Int32), zKeC σ0 y0 → zpc (k5 y0 y1 y2 y3) (fun r => zKeC σ0 (r))) {σ : zSt} {x1 : Int32} {x2 : Int32} {x3 : Int32} (h : zKeC σ0 σ) : zpc (fJ7_fill_53178_k32_5_body k5 σ x1 x2 x3) (fun r => zKeC σ0 (r)) := by
  unfold fJ7_fill_53178_k32_5_body
  exact zpc_if (fun _ => zpc_some h) (fun _ => zpc_ck (zpc_bs (zKeC.wi h (by decide)) (fun σ1 hσ1 => zpc_bv (fun v2 _ => hk5 _ _ _ _ hσ1))))
theorem w_fJ7_fill_53178_k32_5 {σ0 : zSt} : ∀ (n : Nat) (y0 : zSt) (y1 : Int32) (y2 : Int32) (y3 : Int32), zKeC σ0 y0 → zpc (fJ7_fill_53178_k32_5 n y0 y1 y2 y3) (fun r => zKeC σ0 (r)) := by
  intro n
  induction n with
  | zero => intro y0 y1 y2 y3 h; exact zpc_none
  | succ n ih => intro y0 y1 y2 y3 h; exact w_fJ7_fill_53178_k32_5_body ih h
theorem w_fJ7_fill_53178_k32 {σ0 : zSt} {σ : zSt} {x1 : Int32} (h : zKeC σ0 σ) : zpc (fJ7_fill_53178_k32 σ x1) (fun r => zKeC σ0 (r)) := by
  unfold fJ7_fill_53178_k32
  exact w_fJ7_fill_53178_k32_5 _ _ _ _ _ h
theorem w_fX10_clear_36_body {σ0 : zSt} {k36 : zSt → Int32 → Option (zSt)} (hk36 : ∀ (y0 : zSt) (y1 : Int32), zKeC σ0 y0 → zpc (k36 y0 y1) (fun r => zKeC σ0 (r))) {σ : zSt} {x2 : Int32} (h : zKeC σ0 σ) : zpc (fX10_clear_36_body k36 σ x2) (fun r => zKeC σ0 (r)) := by
  unfold fX10_clear_36_body
  exact zpc_if (fun _ => zpc_some h) (fun _ => zpc_ck (zpc_bs (zKeC.wi h (by decide)) (fun σ1 hσ1 => zpc_ck (zpc_bs (zKeC.wi hσ1 (by decide)) (fun σ2 hσ2 => zpc_bv (fun v3 _ => hk36 _ _ hσ2))))))
theorem w_fX10_clear_36 {σ0 : zSt} : ∀ (n : Nat) (y0 : zSt) (y1 : Int32), zKeC σ0 y0 → zpc (fX10_clear_36 n y0 y1) (fun r => zKeC σ0 (r)) := by
  intro n
  induction n with
  | zero => intro y0 y1 h; exact zpc_none
  | succ n ih => intro y0 y1 h; exact w_fX10_clear_36_body ih h
theorem w_fX10_clear {σ0 : zSt} {σ : zSt} (h : zKeC σ0 σ) : zpc (fX10_clear σ) (fun r => zKeC σ0 (r)) := by
  unfold fX10_clear
  exact zpc_ck (zpc_bv (fun v4 _ => zpc_bu (w_fJ7_fill_53178_k32 h) (fun σ5 hσ5 => zpc_ck (zpc_bs (zKeC.wi hσ5 (by decide)) (fun σ6 hσ6 => zpc_ck (zpc_bs (zKeC.wi hσ6 (by decide)) (fun σ7 hσ7 => w_fX10_clear_36 _ _ _ hσ7)))))))
theorem w_fX10_keep {σ0 : zSt} {σ : zSt} (h : zKeC σ0 σ) : zpc (fX10_keep σ) (fun r => zKeC σ0 (r)) := by
  unfold fX10_keep
  exact zpc_ck (zpc_bs (zKeC.ci h (by decide)) (fun σ1 hσ1 => zpc_some hσ1))
theorem w_fX10_bringBack {σ0 : zSt} {σ : zSt} (h : zKeC σ0 σ) : zpc (fX10_bringBack σ) (fun r => zKeC σ0 (r)) := by
  unfold fX10_bringBack
  exact zpc_ck (zpc_bs (zKeC.ci h (by decide)) (fun σ1 hσ1 => zpc_some hσ1))
theorem w_fX10_has_37 {σ0 : zSt} {σ : zSt} {s0 : Int32} (h : zKeC σ0 σ) : zpc (fX10_has_37 σ s0) (fun r => zKeC σ0 (r.1)) := by
  unfold fX10_has_37
  exact zpc_ck (zpc_some h)
theorem w_fX10_has_36 {σ0 : zSt} {σ : zSt} (h : zKeC σ0 σ) : zpc (fX10_has_36 σ) (fun r => zKeC σ0 (r.1)) := by
  unfold fX10_has_36
  exact w_fX10_has_37 h
theorem w_fX10_has_32 {σ0 : zSt} {σ : zSt} (h : zKeC σ0 σ) : zpc (fX10_has_32 σ) (fun r => zKeC σ0 (r.1)) := by
  unfold fX10_has_32
  exact w_fX10_has_37 h
theorem w_fX10_has_10 {σ0 : zSt} {σ : zSt} {x0 : Int32} (h : zKeC σ0 σ) : zpc (fX10_has_10 σ x0) (fun r => zKeC σ0 (r.1)) := by
  unfold fX10_has_10
  exact zpc_if (fun _ => w_fX10_has_36 h) (fun _ => zpc_if (fun _ => w_fX10_has_36 h) (fun _ => zpc_if (fun _ => w_fX10_has_36 h) (fun _ => w_fX10_has_32 h)))
theorem w_fX10_has {σ0 : zSt} {σ : zSt} {x0 : Int32} (h : zKeC σ0 σ) : zpc (fX10_has σ x0) (fun r => zKeC σ0 (r.1)) := by
  unfold fX10_has
  exact zpc_if (fun _ => w_fX10_has_10 h) (fun _ => zpc_if (fun _ => w_fX10_has_32 h) (fun _ => w_fX10_has_10 h))
theorem w_fX11_clearAll {σ0 : zSt} {σ : zSt} (h : zKeC σ0 σ) : zpc (fX11_clearAll σ) (fun r => zKeC σ0 (r)) := by
  unfold fX11_clearAll
  exact zpc_bu (w_fX2_clearPages h) (fun σ1 hσ1 => zpc_bu (w_fX9_clear hσ1) (fun σ2 hσ2 => zpc_bu (w_fX7_clear hσ2) (fun σ3 hσ3 => zpc_bu (w_fX10_clear hσ3) (fun σ4 hσ4 => zpc_bu (w_fX4_clear hσ4) (fun σ5 hσ5 => zpc_bu (w_fX5_clear hσ5) (fun σ6 hσ6 => zpc_some hσ6))))))
theorem w_fX11_load_28 {σ0 : zSt} {σ : zSt} {x1 : Int32} (h : zKeC σ0 σ) : zpc (fX11_load_28 σ x1) (fun r => zKeC σ0 (r.1)) := by
  unfold fX11_load_28
  exact zpc_some h
theorem w_fX11_endLine_62 {σ0 : zSt} {σ : zSt} (h : zKeC σ0 σ) : zpc (fX11_endLine_62 σ) (fun r => zKeC σ0 (r)) := by
  unfold fX11_endLine_62
  exact zpc_some h
theorem w_fX11_endLine_26 {σ0 : zSt} {σ : zSt} (h : zKeC σ0 σ) : zpc (fX11_endLine_26 σ) (fun r => zKeC σ0 (r)) := by
  unfold fX11_endLine_26
  exact zpc_bi (w_fX9_goesToNextLine h) (fun σ1 v2 hσ1 => zpc_if (fun _ => w_fX11_endLine_62 hσ1) (fun _ => zpc_bu (w_fX0_countPicture hσ1) (fun σ3 hσ3 => zpc_bll (w_fX0_count hσ3) (fun σ4 v5 hσ4 => zpc_bu (w_fX1_carryOutPlans hσ4) (fun σ6 hσ6 => w_fX11_endLine_62 hσ6)))))
theorem w_fX11_endLine {σ0 : zSt} {σ : zSt} (h : zKeC σ0 σ) : zpc (fX11_endLine σ) (fun r => zKeC σ0 (r)) := by
  unfold fX11_endLine
  exact zpc_bi (w_fX9_held h) (fun σ7 v8 hσ7 => zpc_bi (w_fX9_height hσ7) (fun σ9 v10 hσ9 => zpc_if (fun _ => w_fX11_endLine_26 hσ9) (fun _ => zpc_bu (w_fX3_draw hσ9) (fun σ11 hσ11 => w_fX11_endLine_26 hσ11))))
theorem w_fX11_run_135 {σ0 : zSt} {σ : zSt} {x5 : Int32} (h : zKeC σ0 σ) : zpc (fX11_run_135 σ x5) (fun r => zKeC σ0 (r.1)) := by
  unfold fX11_run_135
  exact zpc_some h
theorem w_fX11_run_120 {σ0 : zSt} {k15 : zSt → Int32 → Int64 → Int32 → Option (zSt × Int32)} (hk15 : ∀ (y0 : zSt) (y1 : Int32) (y2 : Int64) (y3 : Int32), zKeC σ0 y0 → zpc (k15 y0 y1 y2 y3) (fun r => zKeC σ0 (r.1))) {σ : zSt} {x1 : Int32} {x3 : Int64} {x5 : Int32} {x7 : Int32} (h : zKeC σ0 σ) : zpc (fX11_run_120 k15 σ x1 x3 x5 x7) (fun r => zKeC σ0 (r.1)) := by
  unfold fX11_run_120
  exact zpc_bu (w_fX0_pass h) (fun σ1 hσ1 => zpc_bv (fun v2 _ => hk15 _ _ _ _ hσ1))
theorem w_fX11_run_104 {σ0 : zSt} {k15 : zSt → Int32 → Int64 → Int32 → Option (zSt × Int32)} (hk15 : ∀ (y0 : zSt) (y1 : Int32) (y2 : Int64) (y3 : Int32), zKeC σ0 y0 → zpc (k15 y0 y1 y2 y3) (fun r => zKeC σ0 (r.1))) {σ : zSt} {x1 : Int32} {x3 : Int64} {x5 : Int32} {x7 : Int32} (h : zKeC σ0 σ) : zpc (fX11_run_104 k15 σ x1 x3 x5 x7) (fun r => zKeC σ0 (r.1)) := by
  unfold fX11_run_104
  exact zpc_bi (w_fX9_passes h) (fun σ3 v4 hσ3 => zpc_if (fun _ => w_fX11_run_120 hk15 hσ3) (fun _ => zpc_bu (w_fX11_endLine hσ3) (fun σ5 hσ5 => w_fX11_run_120 hk15 hσ5)))
theorem w_fX11_run_65 {σ0 : zSt} {k15 : zSt → Int32 → Int64 → Int32 → Option (zSt × Int32)} (hk15 : ∀ (y0 : zSt) (y1 : Int32) (y2 : Int64) (y3 : Int32), zKeC σ0 y0 → zpc (k15 y0 y1 y2 y3) (fun r => zKeC σ0 (r.1))) {σ : zSt} {x1 : Int32} {x3 : Int64} {x5 : Int32} {x6 : Int32} (h : zKeC σ0 σ) : zpc (fX11_run_65 k15 σ x1 x3 x5 x6) (fun r => zKeC σ0 (r.1)) := by
  unfold fX11_run_65
  exact zpc_bu (w_fX1_noteStep h) (fun σ6 hσ6 => zpc_bi (w_fX9_asks hσ6) (fun σ7 v8 hσ7 => zpc_bi (w_fX5_answerCalls hσ7) (fun σ9 v10 hσ9 => zpc_if (fun _ => zpc_bi (w_fX5_carryOn hσ9) (fun σ11 v12 hσ11 => w_fX11_run_104 hk15 hσ11)) (fun _ => w_fX11_run_104 hk15 hσ9))))
theorem w_fX11_run_15_body {σ0 : zSt} {k15 : zSt → Int32 → Int64 → Int32 → Option (zSt × Int32)} (hk15 : ∀ (y0 : zSt) (y1 : Int32) (y2 : Int64) (y3 : Int32), zKeC σ0 y0 → zpc (k15 y0 y1 y2 y3) (fun r => zKeC σ0 (r.1))) {σ : zSt} {x1 : Int32} {x3 : Int64} {x5 : Int32} (h : zKeC σ0 σ) : zpc (fX11_run_15_body k15 σ x1 x3 x5) (fun r => zKeC σ0 (r.1)) := by
  unfold fX11_run_15_body
  exact zpc_if (fun _ => w_fX11_run_135 h) (fun _ => zpc_bll (w_fX0_count h) (fun σ13 v14 hσ13 => zpc_if (fun _ => w_fX11_run_135 hσ13) (fun _ => zpc_bi (w_fX5_value hσ13) (fun σ15 v16 hσ15 => zpc_if (fun _ => w_fX11_run_65 hk15 hσ15) (fun _ => zpc_bi (w_fX1_isStop hσ15) (fun σ17 v18 hσ17 => zpc_if (fun _ => w_fX11_run_65 hk15 hσ17) (fun _ => w_fX11_run_135 hσ17)))))))
theorem w_fX11_run_15 {σ0 : zSt} : ∀ (n : Nat) (y0 : zSt) (y1 : Int32) (y2 : Int64) (y3 : Int32), zKeC σ0 y0 → zpc (fX11_run_15 n y0 y1 y2 y3) (fun r => zKeC σ0 (r.1)) := by
  intro n
  induction n with
  | zero => intro y0 y1 y2 y3 h; exact zpc_none
  | succ n ih => intro y0 y1 y2 y3 h; exact w_fX11_run_15_body ih h
theorem w_fX11_run {σ0 : zSt} {σ : zSt} {x1 : Int32} {x2 : Int32} (h : zKeC σ0 σ) : zpc (fX11_run σ x1 x2) (fun r => zKeC σ0 (r.1)) := by
  unfold fX11_run
  exact zpc_bll (w_fX0_count h) (fun σ19 v20 hσ19 => zpc_bv (fun v21 _ => w_fX11_run_15 _ _ _ _ _ hσ19))
theorem w_fX11_reset {σ0 : zSt} {σ : zSt} (h : zKeC σ0 σ) : zpc (fX11_reset σ) (fun r => zKeC σ0 (r)) := by
  unfold fX11_reset
  exact zpc_bu (w_fX11_clearAll h) (fun σ1 hσ1 => zpc_some hσ1)
theorem w_fX11_pause_26 {σ0 : zSt} {σ : zSt} {s0 : Int32} (h : zKeC σ0 σ) : zpc (fX11_pause_26 σ s0) (fun r => zKeC σ0 (r.1)) := by
  unfold fX11_pause_26
  exact zpc_ck (zpc_some h)
theorem w_fX11_pause_14 {σ0 : zSt} {σ : zSt} (h : zKeC σ0 σ) : zpc (fX11_pause_14 σ) (fun r => zKeC σ0 (r.1)) := by
  unfold fX11_pause_14
  exact zpc_if (fun _ => w_fX11_pause_26 h) (fun _ => w_fX11_pause_26 h)
theorem w_fX11_pause {σ0 : zSt} {σ : zSt} (h : zKeC σ0 σ) : zpc (fX11_pause σ) (fun r => zKeC σ0 (r.1)) := by
  unfold fX11_pause
  exact zpc_if (fun _ => zpc_bu (w_fX5_askForPause h) (fun σ1 hσ1 => w_fX11_pause_14 hσ1)) (fun _ => w_fX11_pause_14 h)
theorem w_fX11_start {σ0 : zSt} {σ : zSt} {x1 : Int32} (h : zKeC σ0 σ) : zpc (fX11_start σ x1) (fun r => zKeC σ0 (r)) := by
  unfold fX11_start
  exact zpc_bu (w_fX4_holdStart h) (fun σ1 hσ1 => zpc_some hσ1)
theorem w_fX11_tell {σ0 : zSt} {σ : zSt} {x1 : Int32} (h : zKeC σ0 σ) : zpc (fX11_tell σ x1) (fun r => zKeC σ0 (r.1)) := by
  unfold fX11_tell
  exact zpc_bi (w_fX8_write h) (fun σ1 v2 hσ1 => zpc_some hσ1)
theorem w_fX11_save {σ0 : zSt} {σ : zSt} (h : zKeC σ0 σ) : zpc (fX11_save σ) (fun r => zKeC σ0 (r)) := by
  unfold fX11_save
  exact zpc_bu (w_fX2_keep h) (fun σ1 hσ1 => zpc_bu (w_fX9_keep hσ1) (fun σ2 hσ2 => zpc_bu (w_fX3_keep hσ2) (fun σ3 hσ3 => zpc_bu (w_fX7_keep hσ3) (fun σ4 hσ4 => zpc_bu (w_fX10_keep hσ4) (fun σ5 hσ5 => zpc_bu (w_fX4_keep hσ5) (fun σ6 hσ6 => zpc_bu (w_fX5_keep hσ6) (fun σ7 hσ7 => zpc_bu (w_fX0_keep hσ7) (fun σ8 hσ8 => zpc_bu (w_fX1_keep hσ8) (fun σ9 hσ9 => zpc_ck (zpc_bs (zKeC.wi hσ9 (by decide)) (fun σ10 hσ10 => zpc_some hσ10)))))))))))
theorem w_fX11_peek {σ0 : zSt} {σ : zSt} {x1 : Int32} (h : zKeC σ0 σ) : zpc (fX11_peek σ x1) (fun r => zKeC σ0 (r.1)) := by
  unfold fX11_peek
  exact zpc_bi (w_fX2_read h) (fun σ1 v2 hσ1 => zpc_some hσ1)
theorem w_fX11_poke {σ0 : zSt} {σ : zSt} {x1 : Int32} {x2 : Int32} (h : zKeC σ0 σ) : zpc (fX11_poke σ x1 x2) (fun r => zKeC σ0 (r)) := by
  unfold fX11_poke
  exact zpc_bu (w_fX2_write h) (fun σ1 hσ1 => zpc_some hσ1)
theorem w_fX11_in {σ0 : zSt} {σ : zSt} {x1 : Int32} (h : zKeC σ0 σ) : zpc (fX11_in σ x1) (fun r => zKeC σ0 (r.1)) := by
  unfold fX11_in
  exact zpc_bi (w_fX4_read h) (fun σ1 v2 hσ1 => zpc_some hσ1)
theorem w_fX11_out {σ0 : zSt} {σ : zSt} {x1 : Int32} {x2 : Int32} (h : zKeC σ0 σ) : zpc (fX11_out σ x1 x2) (fun r => zKeC σ0 (r)) := by
  unfold fX11_out
  exact zpc_bu (w_fX4_write h) (fun σ1 hσ1 => zpc_some hσ1)
theorem w_fX11_wipe {σ0 : zSt} {σ : zSt} (h : zKeC σ0 σ) : zpc (fX11_wipe σ) (fun r => zKeC σ0 (r)) := by
  unfold fX11_wipe
  exact zpc_bu (w_fX2_clearBattery h) (fun σ1 hσ1 => zpc_some hσ1)
theorem w_fX11_video {σ0 : zSt} {σ : zSt} {x1 : Int32} (h : zKeC σ0 σ) : zpc (fX11_video σ x1) (fun r => zKeC σ0 (r.1)) := by
  unfold fX11_video
  exact zpc_bll (w_fX9_eightFrom h) (fun σ1 v2 hσ1 => zpc_some hσ1)
theorem w_fX11_trace {σ0 : zSt} {σ : zSt} {x1 : Int32} (h : zKeC σ0 σ) : zpc (fX11_trace σ x1) (fun r => zKeC σ0 (r.1)) := by
  unfold fX11_trace
  exact zpc_bi (w_fX1_stepBack h) (fun σ1 v2 hσ1 => zpc_some hσ1)
theorem w_fX11_feed_11 {σ0 : zSt} {σ : zSt} (h : zKeC σ0 σ) : zpc (fX11_feed_11 σ) (fun r => zKeC σ0 (zRis r)) := by
  unfold fX11_feed_11
  exact zpc_some h
theorem w_fX11_grow_19 {σ0 : zSt} {σ : zSt} (h : zKeC σ0 σ) : zpc (fX11_grow_19 σ) (fun r => zKeC σ0 (zRis r)) := by
  unfold fX11_grow_19
  exact zpc_some h
theorem w_fX11_patch_18 {σ0 : zSt} {σ : zSt} (h : zKeC σ0 σ) : zpc (fX11_patch_18 σ) (fun r => zKeC σ0 (zRus r)) := by
  unfold fX11_patch_18
  exact zpc_some h
theorem w_fX11_card_10 {σ0 : zSt} {σ : zSt} (h : zKeC σ0 σ) : zpc (fX11_card_10 σ) (fun r => zKeC σ0 (zRis r)) := by
  unfold fX11_card_10
  exact zpc_some h
theorem w_fX11_card {σ0 : zSt} {σ : zSt} {x1 : Int32} (h : zKeC σ0 σ) : zpc (fX11_card σ x1) (fun r => zKeC σ0 (zRis r)) := by
  unfold fX11_card
  exact zpc_if (fun _ => w_fX11_card_10 h) (fun _ => zpc_if (fun _ => zpc_bi (w_fX2_aboutCard h) (fun σ1 v2 hσ1 => zpc_some hσ1)) (fun _ => w_fX11_card_10 h))
theorem w_fX11_step_12 {σ0 : zSt} {σ : zSt} (h : zKeC σ0 σ) : zpc (fX11_step_12 σ) (fun r => zKeC σ0 (zRis r)) := by
  unfold fX11_step_12
  exact zpc_some h
theorem w_fX11_step {σ0 : zSt} {σ : zSt} {x1 : Int32} (h : zKeC σ0 σ) : zpc (fX11_step σ x1) (fun r => zKeC σ0 (zRis r)) := by
  unfold fX11_step
  exact zpc_if (fun _ => w_fX11_step_12 h) (fun _ => zpc_if (fun _ => zpc_bi (w_fX11_run h) (fun σ1 v2 hσ1 => zpc_some hσ1)) (fun _ => w_fX11_step_12 h))
theorem w_fX11_picture_10 {σ0 : zSt} {σ : zSt} (h : zKeC σ0 σ) : zpc (fX11_picture_10 σ) (fun r => zKeC σ0 (zRis r)) := by
  unfold fX11_picture_10
  exact zpc_some h
theorem w_fX11_picture {σ0 : zSt} {σ : zSt} {x1 : Int32} (h : zKeC σ0 σ) : zpc (fX11_picture σ x1) (fun r => zKeC σ0 (zRis r)) := by
  unfold fX11_picture
  exact zpc_if (fun _ => w_fX11_picture_10 h) (fun _ => zpc_if (fun _ => zpc_bi (w_fX11_run h) (fun σ1 v2 hσ1 => zpc_some hσ1)) (fun _ => w_fX11_picture_10 h))
theorem w_fX11_press {σ0 : zSt} {σ : zSt} {x1 : Int32} {x2 : Int32} (h : zKeC σ0 σ) : zpc (fX11_press σ x1 x2) (fun r => zKeC σ0 (zRus r)) := by
  unfold fX11_press
  exact zpc_bi (w_fX4_canPress h) (fun σ1 v2 hσ1 => zpc_if (fun _ => zpc_some hσ1) (fun _ => zpc_bu (w_fX4_holdButtons hσ1) (fun σ3 hσ3 => zpc_some hσ3)))
theorem w_fX11_line_9 {σ0 : zSt} {σ : zSt} (h : zKeC σ0 σ) : zpc (fX11_line_9 σ) (fun r => zKeC σ0 (zRus r)) := by
  unfold fX11_line_9
  exact zpc_some h
theorem w_fX11_line {σ0 : zSt} {σ : zSt} {x1 : Int32} {x2 : Int32} (h : zKeC σ0 σ) : zpc (fX11_line σ x1 x2) (fun r => zKeC σ0 (zRus r)) := by
  unfold fX11_line
  exact zpc_if (fun _ => w_fX11_line_9 h) (fun _ => zpc_if (fun _ => zpc_bu (w_fX4_moveLine h) (fun σ1 hσ1 => zpc_some hσ1)) (fun _ => w_fX11_line_9 h))
theorem w_fX11_plan_19 {σ0 : zSt} {σ : zSt} (h : zKeC σ0 σ) : zpc (fX11_plan_19 σ) (fun r => zKeC σ0 (zRis r)) := by
  unfold fX11_plan_19
  exact zpc_some h
theorem w_fX11_plan {σ0 : zSt} {σ : zSt} {x1 : Int32} {x2 : Int32} {x3 : Int32} (h : zKeC σ0 σ) : zpc (fX11_plan σ x1 x2 x3) (fun r => zKeC σ0 (zRis r)) := by
  unfold fX11_plan
  exact zpc_bi (w_fX1_leastPlan h) (fun σ1 v2 hσ1 => zpc_if (fun _ => w_fX11_plan_19 hσ1) (fun _ => zpc_bi (w_fX4_canPress hσ1) (fun σ3 v4 hσ3 => zpc_if (fun _ => w_fX11_plan_19 hσ3) (fun _ => zpc_bi (w_fX1_plansWaiting hσ3) (fun σ5 v6 hσ5 => zpc_if (fun _ => zpc_bi (w_fX1_addPlan hσ5) (fun σ7 v8 hσ7 => zpc_some hσ7)) (fun _ => zpc_some hσ5))))))
theorem w_fX11_text_15 {σ0 : zSt} {σ : zSt} (h : zKeC σ0 σ) : zpc (fX11_text_15 σ) (fun r => zKeC σ0 (zRls r)) := by
  unfold fX11_text_15
  exact zpc_some h
theorem w_fX11_text {σ0 : zSt} {σ : zSt} {x1 : Int32} (h : zKeC σ0 σ) : zpc (fX11_text σ x1) (fun r => zKeC σ0 (zRls r)) := by
  unfold fX11_text
  exact zpc_if (fun _ => w_fX11_text_15 h) (fun _ => zpc_if (fun _ => zpc_bll (w_fX8_eightFrom h) (fun σ1 v2 hσ1 => zpc_some hσ1)) (fun _ => w_fX11_text_15 h))
theorem w_fX11_stop_10 {σ0 : zSt} {σ : zSt} (h : zKeC σ0 σ) : zpc (fX11_stop_10 σ) (fun r => zKeC σ0 (zRis r)) := by
  unfold fX11_stop_10
  exact zpc_some h
theorem w_fX11_stop {σ0 : zSt} {σ : zSt} {x1 : Int32} {x2 : Int32} (h : zKeC σ0 σ) : zpc (fX11_stop σ x1 x2) (fun r => zKeC σ0 (zRis r)) := by
  unfold fX11_stop
  exact zpc_if (fun _ => w_fX11_stop_10 h) (fun _ => zpc_if (fun _ => zpc_bi (w_fX1_stopsBeside h) (fun σ1 v2 hσ1 => zpc_if (fun _ => zpc_bi (w_fX1_changeStop hσ1) (fun σ3 v4 hσ3 => zpc_some hσ3)) (fun _ => zpc_some hσ1))) (fun _ => w_fX11_stop_10 h))
theorem w_fX11_restore {σ0 : zSt} {σ : zSt} (h : zKeC σ0 σ) : zpc (fX11_restore σ) (fun r => zKeC σ0 (zRus r)) := by
  unfold fX11_restore
  exact zpc_if (fun _ => zpc_some h) (fun _ => zpc_bu (w_fX2_bringBack h) (fun σ1 hσ1 => zpc_bu (w_fX9_bringBack hσ1) (fun σ2 hσ2 => zpc_bu (w_fX3_bringBack hσ2) (fun σ3 hσ3 => zpc_bu (w_fX7_bringBack hσ3) (fun σ4 hσ4 => zpc_bu (w_fX10_bringBack hσ4) (fun σ5 hσ5 => zpc_bu (w_fX4_bringBack hσ5) (fun σ6 hσ6 => zpc_bu (w_fX5_bringBack hσ6) (fun σ7 hσ7 => zpc_bu (w_fX0_bringBack hσ7) (fun σ8 hσ8 => zpc_bu (w_fX1_bringBack hσ8) (fun σ9 hσ9 => zpc_some hσ9))))))))))
theorem w_fX11_register_10 {σ0 : zSt} {σ : zSt} (h : zKeC σ0 σ) : zpc (fX11_register_10 σ) (fun r => zKeC σ0 (zRis r)) := by
  unfold fX11_register_10
  exact zpc_some h
theorem w_fX11_register {σ0 : zSt} {σ : zSt} {x1 : Int32} (h : zKeC σ0 σ) : zpc (fX11_register σ x1) (fun r => zKeC σ0 (zRis r)) := by
  unfold fX11_register
  exact zpc_if (fun _ => w_fX11_register_10 h) (fun _ => zpc_if (fun _ => zpc_bi (w_fX5_value h) (fun σ1 v2 hσ1 => zpc_some hσ1)) (fun _ => w_fX11_register_10 h))
theorem w_fX11_set_10 {σ0 : zSt} {σ : zSt} (h : zKeC σ0 σ) : zpc (fX11_set_10 σ) (fun r => zKeC σ0 (zRus r)) := by
  unfold fX11_set_10
  exact zpc_some h
theorem w_fX11_set {σ0 : zSt} {σ : zSt} {x1 : Int32} {x2 : Int32} (h : zKeC σ0 σ) : zpc (fX11_set σ x1 x2) (fun r => zKeC σ0 (zRus r)) := by
  unfold fX11_set
  exact zpc_if (fun _ => w_fX11_set_10 h) (fun _ => zpc_if (fun _ => zpc_bu (w_fX5_change h) (fun σ1 hσ1 => zpc_some hσ1)) (fun _ => w_fX11_set_10 h))
theorem w_fX11_battery_11 {σ0 : zSt} {σ : zSt} (h : zKeC σ0 σ) : zpc (fX11_battery_11 σ) (fun r => zKeC σ0 (zRis r)) := by
  unfold fX11_battery_11
  exact zpc_some h
theorem w_fX11_battery {σ0 : zSt} {σ : zSt} {x1 : Int32} (h : zKeC σ0 σ) : zpc (fX11_battery σ x1) (fun r => zKeC σ0 (zRis r)) := by
  unfold fX11_battery
  exact zpc_if (fun _ => w_fX11_battery_11 h) (fun _ => zpc_if (fun _ => zpc_bi (w_fX2_batteryByte h) (fun σ1 v2 hσ1 => zpc_some hσ1)) (fun _ => w_fX11_battery_11 h))
theorem w_fX11_chip {σ0 : zSt} {σ : zSt} {x1 : Int32} (h : zKeC σ0 σ) : zpc (fX11_chip σ x1) (fun r => zKeC σ0 (zRis r)) := by
  unfold fX11_chip
  exact zpc_bi (w_fX9_has h) (fun σ1 v2 hσ1 => zpc_if (fun _ => zpc_some hσ1) (fun _ => zpc_bi (w_fX9_value hσ1) (fun σ3 v4 hσ3 => zpc_some hσ3)))
theorem w_fX11_dot_30 {σ0 : zSt} {σ : zSt} (h : zKeC σ0 σ) : zpc (fX11_dot_30 σ) (fun r => zKeC σ0 (zRis r)) := by
  unfold fX11_dot_30
  exact zpc_some h
theorem w_fX11_dot {σ0 : zSt} {σ : zSt} {x1 : Int32} {x2 : Int32} (h : zKeC σ0 σ) : zpc (fX11_dot σ x1 x2) (fun r => zKeC σ0 (zRis r)) := by
  unfold fX11_dot
  exact zpc_if (fun _ => w_fX11_dot_30 h) (fun _ => zpc_bi (w_fX3_width h) (fun σ1 v2 hσ1 => zpc_if (fun _ => w_fX11_dot_30 hσ1) (fun _ => zpc_if (fun _ => w_fX11_dot_30 hσ1) (fun _ => zpc_bi (w_fX3_height hσ1) (fun σ3 v4 hσ3 => zpc_if (fun _ => zpc_bi (w_fX3_dotAt hσ3) (fun σ5 v6 hσ5 => zpc_some hσ5)) (fun _ => w_fX11_dot_30 hσ3))))))
theorem w_fX11_row_15 {σ0 : zSt} {σ : zSt} (h : zKeC σ0 σ) : zpc (fX11_row_15 σ) (fun r => zKeC σ0 (zRis r)) := by
  unfold fX11_row_15
  exact zpc_some h
theorem w_fX11_row {σ0 : zSt} {σ : zSt} {x1 : Int32} (h : zKeC σ0 σ) : zpc (fX11_row σ x1) (fun r => zKeC σ0 (zRis r)) := by
  unfold fX11_row
  exact zpc_if (fun _ => w_fX11_row_15 h) (fun _ => zpc_bi (w_fX3_height h) (fun σ1 v2 hσ1 => zpc_if (fun _ => zpc_bi (w_fX3_sumOfLine hσ1) (fun σ3 v4 hσ3 => zpc_some hσ3)) (fun _ => w_fX11_row_15 hσ1)))
theorem w_fX11_hear {σ0 : zSt} {σ : zSt} (h : zKeC σ0 σ) : zpc (fX11_hear σ) (fun r => zKeC σ0 (zRls r)) := by
  unfold fX11_hear
  exact zpc_bi (w_fX6_size_k11 h) (fun σ1 v2 hσ1 => zpc_if (fun _ => zpc_some hσ1) (fun _ => zpc_bll (w_fX6_takeFirst_k11 hσ1) (fun σ3 v4 hσ3 => zpc_some hσ3)))
theorem w_fX11_mix {σ0 : zSt} {σ : zSt} (h : zKeC σ0 σ) : zpc (fX11_mix σ) (fun r => zKeC σ0 (zRls r)) := by
  unfold fX11_mix
  exact zpc_bi (w_fX6_size_k12 h) (fun σ1 v2 hσ1 => zpc_if (fun _ => zpc_some hσ1) (fun _ => zpc_bll (w_fX6_takeFirst_k12 hσ1) (fun σ3 v4 hσ3 => zpc_some hσ3)))
theorem w_fX11_wave {σ0 : zSt} {σ : zSt} {x1 : Int32} (h : zKeC σ0 σ) : zpc (fX11_wave σ x1) (fun r => zKeC σ0 (zRis r)) := by
  unfold fX11_wave
  exact zpc_bi (w_fX10_has h) (fun σ1 v2 hσ1 => zpc_if (fun _ => zpc_some hσ1) (fun _ => zpc_bi (w_fX10_value hσ1) (fun σ3 v4 hσ3 => zpc_some hσ3)))
theorem w_fX11_sound_10 {σ0 : zSt} {σ : zSt} (h : zKeC σ0 σ) : zpc (fX11_sound_10 σ) (fun r => zKeC σ0 (zRis r)) := by
  unfold fX11_sound_10
  exact zpc_some h
theorem w_fX11_sound {σ0 : zSt} {σ : zSt} {x1 : Int32} (h : zKeC σ0 σ) : zpc (fX11_sound σ x1) (fun r => zKeC σ0 (zRis r)) := by
  unfold fX11_sound
  exact zpc_if (fun _ => w_fX11_sound_10 h) (fun _ => zpc_if (fun _ => zpc_bi (w_fX7_value h) (fun σ1 v2 hσ1 => zpc_some hσ1)) (fun _ => w_fX11_sound_10 h))
theorem w_fX11_look_10 {σ0 : zSt} {σ : zSt} (h : zKeC σ0 σ) : zpc (fX11_look_10 σ) (fun r => zKeC σ0 (zRls r)) := by
  unfold fX11_look_10
  exact zpc_some h
theorem w_fX11_look_193 {σ0 : zSt} {σ : zSt} {x1 : Int32} (h : zKeC σ0 σ) : zpc (fX11_look_193 σ x1) (fun r => zKeC σ0 (zRls r)) := by
  unfold fX11_look_193
  exact zpc_bi (w_fX2_page h) (fun σ1 v2 hσ1 => zpc_some hσ1)
theorem w_fX11_look_250 {σ0 : zSt} {σ : zSt} {s0 : Int64} (h : zKeC σ0 σ) : zpc (fX11_look_250 σ s0) (fun r => zKeC σ0 (zRls r)) := by
  unfold fX11_look_250
  exact zpc_some h
theorem w_fX11_look {σ0 : zSt} {σ : zSt} {x1 : Int32} (h : zKeC σ0 σ) : zpc (fX11_look σ x1) (fun r => zKeC σ0 (zRls r)) := by
  unfold fX11_look
  exact zpc_if (fun _ => w_fX11_look_10 h) (fun _ => zpc_if (fun _ => zpc_if (fun _ => zpc_bll (w_fX0_count h) (fun σ3 v4 hσ3 => zpc_some hσ3)) (fun _ => zpc_if (fun _ => zpc_bll (w_fX0_count h) (fun σ5 v6 hσ5 => zpc_some hσ5)) (fun _ => zpc_if (fun _ => zpc_bll (w_fX0_count h) (fun σ7 v8 hσ7 => zpc_some hσ7)) (fun _ => zpc_if (fun _ => zpc_bi (w_fX6_size_k11 h) (fun σ9 v10 hσ9 => zpc_some hσ9)) (fun _ => zpc_if (fun _ => zpc_bll (w_fX0_count h) (fun σ11 v12 hσ11 => zpc_some hσ11)) (fun _ => zpc_if (fun _ => zpc_some h) (fun _ => zpc_if (fun _ => zpc_bi (w_fX1_stopCount h) (fun σ13 v14 hσ13 => zpc_some hσ13)) (fun _ => zpc_if (fun _ => zpc_bi (w_fX2_cardSize h) (fun σ15 v16 hσ15 => zpc_some hσ15)) (fun _ => zpc_if (fun _ => zpc_bi (w_fX2_page h) (fun σ17 v18 hσ17 => zpc_some hσ17)) (fun _ => zpc_if (fun _ => w_fX11_look_193 h) (fun _ => zpc_if (fun _ => w_fX11_look_193 h) (fun _ => zpc_if (fun _ => w_fX11_look_193 h) (fun _ => zpc_if (fun _ => zpc_bi (w_fX5_value h) (fun σ19 v20 hσ19 => zpc_some hσ19)) (fun _ => zpc_if (fun _ => zpc_bi (w_fX4_value h) (fun σ21 v22 hσ21 => zpc_some hσ21)) (fun _ => zpc_if (fun _ => zpc_bi (w_fX4_value h) (fun σ23 v24 hσ23 => zpc_some hσ23)) (fun _ => zpc_if (fun _ => zpc_if (fun _ => w_fX11_look_250 h) (fun _ => w_fX11_look_250 h)) (fun _ => zpc_if (fun _ => zpc_bi (w_fX1_plansWaiting h) (fun σ25 v26 hσ25 => zpc_some hσ25)) (fun _ => zpc_if (fun _ => zpc_bi (w_fX6_size_k12 h) (fun σ27 v28 hσ27 => zpc_some hσ27)) (fun _ => zpc_some h))))))))))))))))))) (fun _ => w_fX11_look_10 h))
end ZJN0
section ZJN1
noncomputable def zKeM (σ0 σ : zSt) : Prop := σ.1 1 = σ0.1 1 ∧ σ.1 2 = σ0.1 2 ∧ ∀ j, j ∈ [2, 5, 6, 7, 8, 9] → σ.1 0 j = σ0.1 0 j
theorem zKeM.wi {σ0 σ : zSt} {k j : Nat} {v : Int32} (h : zKeM σ0 σ) (c : (Nat.beq 0 k || (Nat.beq 1 k || Nat.beq 2 k)) = false) : zKeM σ0 (zsi σ k j v) := by
  obtain ⟨h1, h2, h3⟩ := h
  rw [Bool.or_eq_false_iff, Bool.or_eq_false_iff] at c
  exact ⟨(zsi_ne (fun r => by rw [r, show Nat.beq k k = true from Nat.beq_refl k] at c; exact absurd c.2.1 (by decide))).trans h1, (zsi_ne (fun r => by rw [r, show Nat.beq k k = true from Nat.beq_refl k] at c; exact absurd c.2.2 (by decide))).trans h2, fun i hi => by rw [zsi_ne (fun r => by rw [r, show Nat.beq k k = true from Nat.beq_refl k] at c; exact absurd c.1 (by decide))]; exact h3 i hi⟩
theorem zKeM.w0 {σ0 σ : zSt} {j : Nat} {v : Int32} (h : zKeM σ0 σ) (c : [2, 5, 6, 7, 8, 9].contains j = false) : zKeM σ0 (zsi σ 0 j v) := by
  obtain ⟨h1, h2, h3⟩ := h
  refine ⟨(zsi_ne (by decide)).trans h1, (zsi_ne (by decide)).trans h2, fun i hi => ?_⟩
  rw [zsi_nj (fun r => by rw [← r, List.contains_iff_mem.mpr hi] at c; exact absurd c (by decide))]
  exact h3 i hi
theorem zKeM.wl {σ0 σ : zSt} {k j : Nat} {v : Int64} (h : zKeM σ0 σ) : zKeM σ0 (zsl σ k j v) := h
theorem w_fX12_thrown {σ0 : zSt} {σ : zSt} (h : zKeM σ0 σ) : zpc (fX12_thrown σ) (fun r => zKeM σ0 (r.1)) := by
  unfold fX12_thrown
  exact zpc_some h
theorem w_fX12_fails_10 {σ0 : zSt} {σ : zSt} {x1 : Int32} {s0 : Int32} (h : zKeM σ0 σ) : zpc (fX12_fails_10 σ x1 s0) (fun r => zKeM σ0 (r.1)) := by
  unfold fX12_fails_10
  exact zpc_bs (zKeM.w0 h (by decide)) (fun σ1 hσ1 => zpc_ck (zpc_some hσ1))
theorem w_fX12_fails {σ0 : zSt} {σ : zSt} {x1 : Int32} {x2 : Int32} (h : zKeM σ0 σ) : zpc (fX12_fails σ x1 x2) (fun r => zKeM σ0 (r.1)) := by
  unfold fX12_fails
  exact zpc_if (fun _ => w_fX12_fails_10 h) (fun _ => w_fX12_fails_10 h)
theorem w_fX12_within_18 {σ0 : zSt} {σ : zSt} {s0 : Int32} (h : zKeM σ0 σ) : zpc (fX12_within_18 σ s0) (fun r => zKeM σ0 (r.1)) := by
  unfold fX12_within_18
  exact zpc_ck (zpc_some h)
theorem w_fX12_within_17 {σ0 : zSt} {σ : zSt} (h : zKeM σ0 σ) : zpc (fX12_within_17 σ) (fun r => zKeM σ0 (r.1)) := by
  unfold fX12_within_17
  exact w_fX12_within_18 h
theorem w_fX12_within {σ0 : zSt} {σ : zSt} {x0 : Int64} {x2 : Int64} {x4 : Int64} (h : zKeM σ0 σ) : zpc (fX12_within σ x0 x2 x4) (fun r => zKeM σ0 (r.1)) := by
  unfold fX12_within
  exact zpc_if (fun _ => w_fX12_within_17 h) (fun _ => zpc_if (fun _ => w_fX12_within_17 h) (fun _ => w_fX12_within_18 h))
theorem w_fX12_feed_49 {σ0 : zSt} {σ : zSt} (h : zKeM σ0 σ) : zpc (fX12_feed_49 σ) (fun r => zKeM σ0 (r.1)) := by
  unfold fX12_feed_49
  exact zpc_some h
theorem w_fX12_grow_47 {σ0 : zSt} {σ : zSt} (h : zKeM σ0 σ) : zpc (fX12_grow_47 σ) (fun r => zKeM σ0 (r.1)) := by
  unfold fX12_grow_47
  exact zpc_some h
theorem w_fX12_bytesAt_7_body {σ0 : zSt} {k7 : zSt → Int32 → Int32 → Int32 → Option (zSt × Int32)} (hk7 : ∀ (y0 : zSt) (y1 : Int32) (y2 : Int32) (y3 : Int32), zKeM σ0 y0 → zpc (k7 y0 y1 y2 y3) (fun r => zKeM σ0 (r.1))) {σ : zSt} {x1 : Int32} {x3 : Int32} {x4 : Int32} (h : zKeM σ0 σ) : zpc (fX12_bytesAt_7_body k7 σ x1 x3 x4) (fun r => zKeM σ0 (r.1)) := by
  unfold fX12_bytesAt_7_body
  exact zpc_if (fun _ => zpc_some h) (fun _ => zpc_ck (zpc_bv (fun v1 _ => zpc_bv (fun v2 _ => hk7 _ _ _ _ h))))
theorem w_fX12_bytesAt_7 {σ0 : zSt} : ∀ (n : Nat) (y0 : zSt) (y1 : Int32) (y2 : Int32) (y3 : Int32), zKeM σ0 y0 → zpc (fX12_bytesAt_7 n y0 y1 y2 y3) (fun r => zKeM σ0 (r.1)) := by
  intro n
  induction n with
  | zero => intro y0 y1 y2 y3 h; exact zpc_none
  | succ n ih => intro y0 y1 y2 y3 h; exact w_fX12_bytesAt_7_body ih h
theorem w_fX12_bytesAt {σ0 : zSt} {σ : zSt} {x1 : Int32} {x2 : Int32} (h : zKeM σ0 σ) : zpc (fX12_bytesAt σ x1 x2) (fun r => zKeM σ0 (r.1)) := by
  unfold fX12_bytesAt
  exact zpc_bv (fun v3 _ => w_fX12_bytesAt_7 _ _ _ _ _ h)
theorem w_fX12_isHeader_125 {σ0 : zSt} {σ : zSt} {s0 : Int32} (h : zKeM σ0 σ) : zpc (fX12_isHeader_125 σ s0) (fun r => zKeM σ0 (r.1)) := by
  unfold fX12_isHeader_125
  exact zpc_ck (zpc_some h)
theorem w_fX12_isHeader_114 {σ0 : zSt} {σ : zSt} {x2 : Int32} (h : zKeM σ0 σ) : zpc (fX12_isHeader_114 σ x2) (fun r => zKeM σ0 (r.1)) := by
  unfold fX12_isHeader_114
  exact zpc_if (fun _ => w_fX12_isHeader_125 h) (fun _ => w_fX12_isHeader_125 h)
theorem w_fX12_isHeader_105 {σ0 : zSt} {k15 : zSt → Int32 → Int32 → Option (zSt × Int32)} (hk15 : ∀ (y0 : zSt) (y1 : Int32) (y2 : Int32), zKeM σ0 y0 → zpc (k15 y0 y1 y2) (fun r => zKeM σ0 (r.1))) {σ : zSt} {x1 : Int32} {x2 : Int32} {s0 : Int32} {s1 : Int32} (h : zKeM σ0 σ) : zpc (fX12_isHeader_105 k15 σ x1 x2 s0 s1) (fun r => zKeM σ0 (r.1)) := by
  unfold fX12_isHeader_105
  exact zpc_if (fun _ => zpc_bv (fun v1 _ => hk15 _ _ _ h)) (fun _ => w_fX12_isHeader_114 h)
theorem w_fX12_isHeader_15_body {σ0 : zSt} {k15 : zSt → Int32 → Int32 → Option (zSt × Int32)} (hk15 : ∀ (y0 : zSt) (y1 : Int32) (y2 : Int32), zKeM σ0 y0 → zpc (k15 y0 y1 y2) (fun r => zKeM σ0 (r.1))) {σ : zSt} {x1 : Int32} {x2 : Int32} (h : zKeM σ0 σ) : zpc (fX12_isHeader_15_body k15 σ x1 x2) (fun r => zKeM σ0 (r.1)) := by
  unfold fX12_isHeader_15_body
  exact zpc_if (fun _ => w_fX12_isHeader_114 h) (fun _ => zpc_ck (zpc_if (fun _ => w_fX12_isHeader_105 hk15 h) (fun _ => zpc_if (fun _ => w_fX12_isHeader_105 hk15 h) (fun _ => zpc_if (fun _ => w_fX12_isHeader_105 hk15 h) (fun _ => zpc_if (fun _ => w_fX12_isHeader_105 hk15 h) (fun _ => zpc_if (fun _ => w_fX12_isHeader_105 hk15 h) (fun _ => zpc_if (fun _ => w_fX12_isHeader_105 hk15 h) (fun _ => zpc_if (fun _ => w_fX12_isHeader_105 hk15 h) (fun _ => w_fX12_isHeader_105 hk15 h)))))))))
theorem w_fX12_isHeader_15 {σ0 : zSt} : ∀ (n : Nat) (y0 : zSt) (y1 : Int32) (y2 : Int32), zKeM σ0 y0 → zpc (fX12_isHeader_15 n y0 y1 y2) (fun r => zKeM σ0 (r.1)) := by
  intro n
  induction n with
  | zero => intro y0 y1 y2 h; exact zpc_none
  | succ n ih => intro y0 y1 y2 h; exact w_fX12_isHeader_15_body ih h
theorem w_fX12_isHeader {σ0 : zSt} {σ : zSt} {x1 : Int32} (h : zKeM σ0 σ) : zpc (fX12_isHeader σ x1) (fun r => zKeM σ0 (r.1)) := by
  unfold fX12_isHeader
  exact zpc_if (fun _ => w_fX12_isHeader_15 _ _ _ _ h) (fun _ => zpc_ck (zpc_some h))
theorem w_fX12_anew_236 {σ0 : zSt} {k196 : zSt → Int32 → Option (zSt)} (hk196 : ∀ (y0 : zSt) (y1 : Int32), zKeM σ0 y0 → zpc (k196 y0 y1) (fun r => zKeM σ0 (r))) {σ : zSt} {x1 : Int32} {s0 : Int32} {s1 : Int32} (h : zKeM σ0 σ) : zpc (fX12_anew_236 k196 σ x1 s0 s1) (fun r => zKeM σ0 (r)) := by
  unfold fX12_anew_236
  exact zpc_ck (zpc_bs (zKeM.wi h (by decide)) (fun σ1 hσ1 => zpc_bv (fun v2 _ => hk196 _ _ hσ1)))
theorem w_fX12_anew_267_body {σ0 : zSt} {k267 : zSt → Int32 → Option (zSt)} (hk267 : ∀ (y0 : zSt) (y1 : Int32), zKeM σ0 y0 → zpc (k267 y0 y1) (fun r => zKeM σ0 (r))) {σ : zSt} {x1 : Int32} (h : zKeM σ0 σ) : zpc (fX12_anew_267_body k267 σ x1) (fun r => zKeM σ0 (r)) := by
  unfold fX12_anew_267_body
  exact zpc_if (fun _ => zpc_some h) (fun _ => zpc_ck (zpc_bs (zKeM.wi h (by decide)) (fun σ3 hσ3 => zpc_bv (fun v4 _ => hk267 _ _ hσ3))))
theorem w_fX12_anew_267 {σ0 : zSt} : ∀ (n : Nat) (y0 : zSt) (y1 : Int32), zKeM σ0 y0 → zpc (fX12_anew_267 n y0 y1) (fun r => zKeM σ0 (r)) := by
  intro n
  induction n with
  | zero => intro y0 y1 h; exact zpc_none
  | succ n ih => intro y0 y1 h; exact w_fX12_anew_267_body ih h
theorem w_fX12_anew_245_body {σ0 : zSt} {k245 : zSt → Int32 → Option (zSt)} (hk245 : ∀ (y0 : zSt) (y1 : Int32), zKeM σ0 y0 → zpc (k245 y0 y1) (fun r => zKeM σ0 (r))) {σ : zSt} {x1 : Int32} (h : zKeM σ0 σ) : zpc (fX12_anew_245_body k245 σ x1) (fun r => zKeM σ0 (r)) := by
  unfold fX12_anew_245_body
  exact zpc_if (fun _ => w_fX12_anew_267 _ _ _ h) (fun _ => zpc_ck (zpc_bs (zKeM.wi h (by decide)) (fun σ5 hσ5 => zpc_bv (fun v6 _ => hk245 _ _ hσ5))))
theorem w_fX12_anew_245 {σ0 : zSt} : ∀ (n : Nat) (y0 : zSt) (y1 : Int32), zKeM σ0 y0 → zpc (fX12_anew_245 n y0 y1) (fun r => zKeM σ0 (r)) := by
  intro n
  induction n with
  | zero => intro y0 y1 h; exact zpc_none
  | succ n ih => intro y0 y1 h; exact w_fX12_anew_245_body ih h
theorem w_fX12_anew_196_body {σ0 : zSt} {k196 : zSt → Int32 → Option (zSt)} (hk196 : ∀ (y0 : zSt) (y1 : Int32), zKeM σ0 y0 → zpc (k196 y0 y1) (fun r => zKeM σ0 (r))) {σ : zSt} {x1 : Int32} (h : zKeM σ0 σ) : zpc (fX12_anew_196_body k196 σ x1) (fun r => zKeM σ0 (r)) := by
  unfold fX12_anew_196_body
  exact zpc_if (fun _ => w_fX12_anew_245 _ _ _ h) (fun _ => zpc_ck (zpc_if (fun _ => w_fX12_anew_236 hk196 h) (fun _ => zpc_ck (zpc_if (fun _ => w_fX12_anew_236 hk196 h) (fun _ => w_fX12_anew_236 hk196 h)))))
theorem w_fX12_anew_196 {σ0 : zSt} : ∀ (n : Nat) (y0 : zSt) (y1 : Int32), zKeM σ0 y0 → zpc (fX12_anew_196 n y0 y1) (fun r => zKeM σ0 (r)) := by
  intro n
  induction n with
  | zero => intro y0 y1 h; exact zpc_none
  | succ n ih => intro y0 y1 h; exact w_fX12_anew_196_body ih h
theorem w_fX12_anew_165_body {σ0 : zSt} {k165 : zSt → Int32 → Option (zSt)} (hk165 : ∀ (y0 : zSt) (y1 : Int32), zKeM σ0 y0 → zpc (k165 y0 y1) (fun r => zKeM σ0 (r))) {σ : zSt} {x1 : Int32} (h : zKeM σ0 σ) : zpc (fX12_anew_165_body k165 σ x1) (fun r => zKeM σ0 (r)) := by
  unfold fX12_anew_165_body
  exact zpc_if (fun _ => zpc_ck (zpc_bs (zKeM.wi h (by decide)) (fun σ7 hσ7 => w_fX12_anew_196 _ _ _ hσ7))) (fun _ => zpc_ck (zpc_bs (zKeM.wi h (by decide)) (fun σ8 hσ8 => zpc_bv (fun v9 _ => hk165 _ _ hσ8))))
theorem w_fX12_anew_165 {σ0 : zSt} : ∀ (n : Nat) (y0 : zSt) (y1 : Int32), zKeM σ0 y0 → zpc (fX12_anew_165 n y0 y1) (fun r => zKeM σ0 (r)) := by
  intro n
  induction n with
  | zero => intro y0 y1 h; exact zpc_none
  | succ n ih => intro y0 y1 h; exact w_fX12_anew_165_body ih h
theorem w_fX12_anew_131_body {σ0 : zSt} {k131 : zSt → Int32 → Option (zSt)} (hk131 : ∀ (y0 : zSt) (y1 : Int32), zKeM σ0 y0 → zpc (k131 y0 y1) (fun r => zKeM σ0 (r))) {σ : zSt} {x1 : Int32} (h : zKeM σ0 σ) : zpc (fX12_anew_131_body k131 σ x1) (fun r => zKeM σ0 (r)) := by
  unfold fX12_anew_131_body
  exact zpc_if (fun _ => zpc_ck (zpc_bs (zKeM.wi h (by decide)) (fun σ10 hσ10 => w_fX12_anew_165 _ _ _ hσ10))) (fun _ => zpc_ck (zpc_bs (zKeM.wi h (by decide)) (fun σ11 hσ11 => zpc_bv (fun v12 _ => hk131 _ _ hσ11))))
theorem w_fX12_anew_131 {σ0 : zSt} : ∀ (n : Nat) (y0 : zSt) (y1 : Int32), zKeM σ0 y0 → zpc (fX12_anew_131 n y0 y1) (fun r => zKeM σ0 (r)) := by
  intro n
  induction n with
  | zero => intro y0 y1 h; exact zpc_none
  | succ n ih => intro y0 y1 h; exact w_fX12_anew_131_body ih h
theorem w_fX12_anew_79 {σ0 : zSt} {σ : zSt} {s0 : Int32} {s1 : Int32} (h : zKeM σ0 σ) : zpc (fX12_anew_79 σ s0 s1) (fun r => zKeM σ0 (r)) := by
  unfold fX12_anew_79
  exact zpc_ck (zpc_bs (zKeM.wi h (by decide)) (fun σ13 hσ13 => zpc_ck (zpc_bs (zKeM.wi hσ13 (by decide)) (fun σ14 hσ14 => zpc_ck (zpc_bs (zKeM.wi hσ14 (by decide)) (fun σ15 hσ15 => zpc_ck (zpc_bs (zKeM.wi hσ15 (by decide)) (fun σ16 hσ16 => zpc_ck (zpc_bs (zKeM.wi hσ16 (by decide)) (fun σ17 hσ17 => zpc_ck (zpc_bs (zKeM.wi hσ17 (by decide)) (fun σ18 hσ18 => w_fX12_anew_131 _ _ _ hσ18))))))))))))
theorem w_fX12_anew_24_body {σ0 : zSt} {k24 : zSt → Int32 → Option (zSt)} (hk24 : ∀ (y0 : zSt) (y1 : Int32), zKeM σ0 y0 → zpc (k24 y0 y1) (fun r => zKeM σ0 (r))) {σ : zSt} {x1 : Int32} (h : zKeM σ0 σ) : zpc (fX12_anew_24_body k24 σ x1) (fun r => zKeM σ0 (r)) := by
  unfold fX12_anew_24_body
  exact zpc_if (fun _ => zpc_ck (zpc_bs (zKeM.wi h (by decide)) (fun σ19 hσ19 => zpc_ck (zpc_bs (zKeM.wi hσ19 (by decide)) (fun σ20 hσ20 => zpc_if (fun _ => w_fX12_anew_79 hσ20) (fun _ => w_fX12_anew_79 hσ20)))))) (fun _ => zpc_ck (zpc_bs (zKeM.wi h (by decide)) (fun σ21 hσ21 => zpc_bv (fun v22 _ => hk24 _ _ hσ21))))
theorem w_fX12_anew_24 {σ0 : zSt} : ∀ (n : Nat) (y0 : zSt) (y1 : Int32), zKeM σ0 y0 → zpc (fX12_anew_24 n y0 y1) (fun r => zKeM σ0 (r)) := by
  intro n
  induction n with
  | zero => intro y0 y1 h; exact zpc_none
  | succ n ih => intro y0 y1 h; exact w_fX12_anew_24_body ih h
theorem w_fX12_anew_2_body {σ0 : zSt} {k2 : zSt → Int32 → Option (zSt)} (hk2 : ∀ (y0 : zSt) (y1 : Int32), zKeM σ0 y0 → zpc (k2 y0 y1) (fun r => zKeM σ0 (r))) {σ : zSt} {x1 : Int32} (h : zKeM σ0 σ) : zpc (fX12_anew_2_body k2 σ x1) (fun r => zKeM σ0 (r)) := by
  unfold fX12_anew_2_body
  exact zpc_if (fun _ => w_fX12_anew_24 _ _ _ h) (fun _ => zpc_ck (zpc_bs (zKeM.wi h (by decide)) (fun σ23 hσ23 => zpc_bv (fun v24 _ => hk2 _ _ hσ23))))
theorem w_fX12_anew_2 {σ0 : zSt} : ∀ (n : Nat) (y0 : zSt) (y1 : Int32), zKeM σ0 y0 → zpc (fX12_anew_2 n y0 y1) (fun r => zKeM σ0 (r)) := by
  intro n
  induction n with
  | zero => intro y0 y1 h; exact zpc_none
  | succ n ih => intro y0 y1 h; exact w_fX12_anew_2_body ih h
theorem w_fX12_anew {σ0 : zSt} {σ : zSt} (h : zKeM σ0 σ) : zpc (fX12_anew σ) (fun r => zKeM σ0 (r)) := by
  unfold fX12_anew
  exact w_fX12_anew_2 _ _ _ h
theorem w_fX12_load_161 {σ0 : zSt} {k142 : zSt → Int32 → Option (zSt × Int32)} (hk142 : ∀ (y0 : zSt) (y1 : Int32), zKeM σ0 y0 → zpc (k142 y0 y1) (fun r => zKeM σ0 (r.1))) {σ : zSt} {x3 : Int32} (h : zKeM σ0 σ) : zpc (fX12_load_161 k142 σ x3) (fun r => zKeM σ0 (r.1)) := by
  unfold fX12_load_161
  exact zpc_bv (fun v3 _ => hk142 _ _ h)
theorem w_fX12_load_414_body {σ0 : zSt} {k414 : zSt → Int32 → Option (zSt × Int32)} (hk414 : ∀ (y0 : zSt) (y1 : Int32), zKeM σ0 y0 → zpc (k414 y0 y1) (fun r => zKeM σ0 (r.1))) {σ : zSt} {x6 : Int32} (h : zKeM σ0 σ) : zpc (fX12_load_414_body k414 σ x6) (fun r => zKeM σ0 (r.1)) := by
  unfold fX12_load_414_body
  exact zpc_if (fun _ => zpc_ck (zpc_bs (zKeM.w0 h (by decide)) (fun σ4 hσ4 => zpc_some hσ4))) (fun _ => zpc_ck (zpc_bs (zKeM.wi h (by decide)) (fun σ5 hσ5 => zpc_bv (fun v6 _ => hk414 _ _ hσ5))))
theorem w_fX12_load_414 {σ0 : zSt} : ∀ (n : Nat) (y0 : zSt) (y1 : Int32), zKeM σ0 y0 → zpc (fX12_load_414 n y0 y1) (fun r => zKeM σ0 (r.1)) := by
  intro n
  induction n with
  | zero => intro y0 y1 h; exact zpc_none
  | succ n ih => intro y0 y1 h; exact w_fX12_load_414_body ih h
theorem w_fX12_tens {σ0 : zSt} {σ : zSt} {x1 : Int32} (h : zKeM σ0 σ) : zpc (fX12_tens σ x1) (fun r => zKeM σ0 (r.1)) := by
  unfold fX12_tens
  exact zpc_ck (zpc_ck (zpc_some h))
theorem w_fX12_card_59 {σ0 : zSt} {σ : zSt} {s0 : Int32} (h : zKeM σ0 σ) : zpc (fX12_card_59 σ s0) (fun r => zKeM σ0 (r.1)) := by
  unfold fX12_card_59
  exact zpc_some h
theorem w_fX12_card_18 {σ0 : zSt} {σ : zSt} {x1 : Int32} {s0 : Int32} (h : zKeM σ0 σ) : zpc (fX12_card_18 σ x1 s0) (fun r => zKeM σ0 (r.1)) := by
  unfold fX12_card_18
  exact zpc_bi (w_fX12_fails h) (fun σ1 v2 hσ1 => zpc_if (fun _ => zpc_if (fun _ => zpc_if (fun _ => zpc_if (fun _ => zpc_bi (w_fX12_tens hσ1) (fun σ3 v4 hσ3 => zpc_bi (w_fX12_tens hσ3) (fun σ5 v6 hσ5 => zpc_ck (zpc_some hσ5)))) (fun _ => zpc_if (fun _ => zpc_ck (zpc_some hσ1)) (fun _ => zpc_if (fun _ => zpc_ck (zpc_some hσ1)) (fun _ => zpc_if (fun _ => zpc_bi (w_fX12_bytesAt hσ1) (fun σ7 v8 hσ7 => zpc_some hσ7)) (fun _ => zpc_some hσ1))))) (fun _ => zpc_some hσ1)) (fun _ => zpc_if (fun _ => w_fX12_card_59 hσ1) (fun _ => zpc_if (fun _ => w_fX12_card_59 hσ1) (fun _ => w_fX12_card_59 hσ1)))) (fun _ => zpc_some hσ1))
theorem w_fX12_card {σ0 : zSt} {σ : zSt} {x1 : Int32} (h : zKeM σ0 σ) : zpc (fX12_card σ x1) (fun r => zKeM σ0 (r.1)) := by
  unfold fX12_card
  exact zpc_bi (w_fX12_within h) (fun σ9 v10 hσ9 => zpc_if (fun _ => w_fX12_card_18 hσ9) (fun _ => w_fX12_card_18 hσ9))
theorem w_fX12_ofBank {σ0 : zSt} {σ : zSt} {x1 : Int32} {x2 : Int32} (h : zKeM σ0 σ) : zpc (fX12_ofBank σ x1 x2) (fun r => zKeM σ0 (r.1)) := by
  unfold fX12_ofBank
  exact zpc_ck (zpc_ck (zpc_ck (zpc_some h)))
theorem w_fX12_isBattery_38 {σ0 : zSt} {σ : zSt} {s0 : Int32} (h : zKeM σ0 σ) : zpc (fX12_isBattery_38 σ s0) (fun r => zKeM σ0 (r.1)) := by
  unfold fX12_isBattery_38
  exact zpc_ck (zpc_some h)
theorem w_fX12_isBattery_37 {σ0 : zSt} {σ : zSt} (h : zKeM σ0 σ) : zpc (fX12_isBattery_37 σ) (fun r => zKeM σ0 (r.1)) := by
  unfold fX12_isBattery_37
  exact w_fX12_isBattery_38 h
theorem w_fX12_isBattery {σ0 : zSt} {σ : zSt} {x1 : Int32} (h : zKeM σ0 σ) : zpc (fX12_isBattery σ x1) (fun r => zKeM σ0 (r.1)) := by
  unfold fX12_isBattery
  exact zpc_if (fun _ => zpc_ck (zpc_if (fun _ => w_fX12_isBattery_37 h) (fun _ => zpc_if (fun _ => w_fX12_isBattery_37 h) (fun _ => zpc_if (fun _ => w_fX12_isBattery_37 h) (fun _ => w_fX12_isBattery_38 h))))) (fun _ => w_fX12_isBattery_37 h)
theorem w_fX12_batteryAt_23 {σ0 : zSt} {σ : zSt} {s0 : Int32} {s1 : Int32} (h : zKeM σ0 σ) : zpc (fX12_batteryAt_23 σ s0 s1) (fun r => zKeM σ0 (r.1)) := by
  unfold fX12_batteryAt_23
  exact zpc_some h
theorem w_fX12_batteryAt {σ0 : zSt} {σ : zSt} {x1 : Int32} (h : zKeM σ0 σ) : zpc (fX12_batteryAt σ x1) (fun r => zKeM σ0 (r.1)) := by
  unfold fX12_batteryAt
  exact zpc_ck (zpc_if (fun _ => w_fX12_batteryAt_23 h) (fun _ => w_fX12_batteryAt_23 h))
theorem w_fX12_read_80 {σ0 : zSt} {σ : zSt} {s0 : Int32} (h : zKeM σ0 σ) : zpc (fX12_read_80 σ s0) (fun r => zKeM σ0 (r.1)) := by
  unfold fX12_read_80
  exact zpc_some h
theorem w_fX12_read_111 {σ0 : zSt} {σ : zSt} {x2 : Int32} {s0 : Int32} (h : zKeM σ0 σ) : zpc (fX12_read_111 σ x2 s0) (fun r => zKeM σ0 (r.1)) := by
  unfold fX12_read_111
  exact zpc_bi (w_fX12_ofBank h) (fun σ1 v2 hσ1 => zpc_some hσ1)
theorem w_fX12_read_138 {σ0 : zSt} {σ : zSt} {x2 : Int32} (h : zKeM σ0 σ) : zpc (fX12_read_138 σ x2) (fun r => zKeM σ0 (r.1)) := by
  unfold fX12_read_138
  exact zpc_ck (zpc_ck (zpc_bi (w_fX12_ofBank h) (fun σ3 v4 hσ3 => zpc_some hσ3)))
theorem w_fX12_read {σ0 : zSt} {σ : zSt} {x1 : Int32} (h : zKeM σ0 σ) : zpc (fX12_read σ x1) (fun r => zKeM σ0 (r.1)) := by
  unfold fX12_read
  exact zpc_bv (fun v5 _ => zpc_if (fun _ => zpc_bi (w_fX12_isBattery h) (fun σ6 v7 hσ6 => zpc_if (fun _ => zpc_if (fun _ => zpc_if (fun _ => w_fX12_read_80 hσ6) (fun _ => zpc_ck (w_fX12_read_80 hσ6))) (fun _ => zpc_if (fun _ => zpc_if (fun _ => zpc_ck (w_fX12_read_111 hσ6)) (fun _ => zpc_ck (w_fX12_read_111 hσ6))) (fun _ => zpc_if (fun _ => zpc_if (fun _ => w_fX12_read_138 hσ6) (fun _ => zpc_bi (w_fX12_ofBank hσ6) (fun σ8 v9 hσ8 => zpc_some hσ8))) (fun _ => w_fX12_read_138 hσ6)))) (fun _ => zpc_bi (w_fX12_batteryAt hσ6) (fun σ10 v11 hσ10 => zpc_ck (zpc_some hσ10))))) (fun _ => zpc_ck (zpc_ck (zpc_some h))))
theorem w_fX12_write_163 {σ0 : zSt} {σ : zSt} (h : zKeM σ0 σ) : zpc (fX12_write_163 σ) (fun r => zKeM σ0 (r)) := by
  unfold fX12_write_163
  exact zpc_some h
theorem w_fX12_write_140 {σ0 : zSt} {σ : zSt} {x3 : Int32} {x4 : Int32} (h : zKeM σ0 σ) : zpc (fX12_write_140 σ x3 x4) (fun r => zKeM σ0 (r)) := by
  unfold fX12_write_140
  exact zpc_if (fun _ => zpc_if (fun _ => zpc_ck (zpc_bs (zKeM.wi h (by decide)) (fun σ1 hσ1 => w_fX12_write_163 hσ1))) (fun _ => w_fX12_write_163 h)) (fun _ => w_fX12_write_163 h)
theorem w_fX12_write_103 {σ0 : zSt} {σ : zSt} {x3 : Int32} {x4 : Int32} (h : zKeM σ0 σ) : zpc (fX12_write_103 σ x3 x4) (fun r => zKeM σ0 (r)) := by
  unfold fX12_write_103
  exact zpc_if (fun _ => zpc_if (fun _ => w_fX12_write_140 h) (fun _ => zpc_ck (zpc_if (fun _ => zpc_ck (zpc_ck (zpc_bs (zKeM.wi h (by decide)) (fun σ2 hσ2 => w_fX12_write_140 hσ2)))) (fun _ => w_fX12_write_140 h)))) (fun _ => w_fX12_write_140 h)
theorem w_fX12_write_75 {σ0 : zSt} {σ : zSt} {x3 : Int32} {x4 : Int32} (h : zKeM σ0 σ) : zpc (fX12_write_75 σ x3 x4) (fun r => zKeM σ0 (r)) := by
  unfold fX12_write_75
  exact zpc_if (fun _ => zpc_if (fun _ => w_fX12_write_103 h) (fun _ => zpc_ck (zpc_bs (zKeM.wi h (by decide)) (fun σ3 hσ3 => w_fX12_write_103 hσ3)))) (fun _ => w_fX12_write_103 h)
theorem w_fX12_write_52 {σ0 : zSt} {σ : zSt} {x3 : Int32} {x4 : Int32} (h : zKeM σ0 σ) : zpc (fX12_write_52 σ x3 x4) (fun r => zKeM σ0 (r)) := by
  unfold fX12_write_52
  exact zpc_if (fun _ => zpc_if (fun _ => zpc_ck (zpc_bs (zKeM.wi h (by decide)) (fun σ4 hσ4 => w_fX12_write_75 hσ4))) (fun _ => w_fX12_write_75 h)) (fun _ => w_fX12_write_75 h)
theorem w_fX12_write_31 {σ0 : zSt} {σ : zSt} {x3 : Int32} {x4 : Int32} (h : zKeM σ0 σ) : zpc (fX12_write_31 σ x3 x4) (fun r => zKeM σ0 (r)) := by
  unfold fX12_write_31
  exact zpc_bi (w_fX12_isBattery h) (fun σ5 v6 hσ5 => zpc_if (fun _ => w_fX12_write_52 hσ5) (fun _ => zpc_bi (w_fX12_batteryAt hσ5) (fun σ7 v8 hσ7 => zpc_ck (zpc_bs (zKeM.wi hσ7 (by decide)) (fun σ9 hσ9 => w_fX12_write_52 hσ9)))))
theorem w_fX12_write {σ0 : zSt} {σ : zSt} {x1 : Int32} {x2 : Int32} (h : zKeM σ0 σ) : zpc (fX12_write σ x1 x2) (fun r => zKeM σ0 (r)) := by
  unfold fX12_write
  exact zpc_bv (fun v10 _ => zpc_bv (fun v11 _ => zpc_if (fun _ => w_fX12_write_31 h) (fun _ => zpc_ck (zpc_ck (zpc_bs (zKeM.wi h (by decide)) (fun σ12 hσ12 => w_fX12_write_31 hσ12))))))
theorem w_fX12_word {σ0 : zSt} {σ : zSt} {x1 : Int32} (h : zKeM σ0 σ) : zpc (fX12_word σ x1) (fun r => zKeM σ0 (r.1)) := by
  unfold fX12_word
  exact zpc_bi (w_fX12_read h) (fun σ1 v2 hσ1 => zpc_bi (w_fX12_read hσ1) (fun σ3 v4 hσ3 => zpc_some hσ3))
theorem w_fX12_wordTo {σ0 : zSt} {σ : zSt} {x1 : Int32} {x2 : Int32} (h : zKeM σ0 σ) : zpc (fX12_wordTo σ x1 x2) (fun r => zKeM σ0 (r)) := by
  unfold fX12_wordTo
  exact zpc_bu (w_fX12_write h) (fun σ1 hσ1 => zpc_bu (w_fX12_write hσ1) (fun σ2 hσ2 => zpc_some hσ2))
theorem w_fX12_pair {σ0 : zSt} {σ : zSt} {x1 : Int32} (h : zKeM σ0 σ) : zpc (fX12_pair σ x1) (fun r => zKeM σ0 (r.1)) := by
  unfold fX12_pair
  exact zpc_ck (zpc_ck (zpc_some h))
theorem w_fX12_pairTo {σ0 : zSt} {σ : zSt} {x1 : Int32} {x2 : Int32} (h : zKeM σ0 σ) : zpc (fX12_pairTo σ x1 x2) (fun r => zKeM σ0 (r)) := by
  unfold fX12_pairTo
  exact zpc_ck (zpc_bs (zKeM.wi h (by decide)) (fun σ1 hσ1 => zpc_ck (zpc_bs (zKeM.wi hσ1 (by decide)) (fun σ2 hσ2 => zpc_some hσ2))))
theorem w_fX12_hl_25 {σ0 : zSt} {σ : zSt} {s0 : Int32} (h : zKeM σ0 σ) : zpc (fX12_hl_25 σ s0) (fun r => zKeM σ0 (r.1)) := by
  unfold fX12_hl_25
  exact zpc_some h
theorem w_fX12_hl {σ0 : zSt} {σ : zSt} (h : zKeM σ0 σ) : zpc (fX12_hl σ) (fun r => zKeM σ0 (r.1)) := by
  unfold fX12_hl
  exact zpc_if (fun _ => zpc_bi (w_fX12_pair h) (fun σ1 v2 hσ1 => w_fX12_hl_25 hσ1)) (fun _ => zpc_ck (w_fX12_hl_25 h))
theorem w_fX12_hlTo_30 {σ0 : zSt} {σ : zSt} (h : zKeM σ0 σ) : zpc (fX12_hlTo_30 σ) (fun r => zKeM σ0 (r)) := by
  unfold fX12_hlTo_30
  exact zpc_some h
theorem w_fX12_hlTo {σ0 : zSt} {σ : zSt} {x1 : Int32} (h : zKeM σ0 σ) : zpc (fX12_hlTo σ x1) (fun r => zKeM σ0 (r)) := by
  unfold fX12_hlTo
  exact zpc_if (fun _ => zpc_bu (w_fX12_pairTo h) (fun σ2 hσ2 => w_fX12_hlTo_30 hσ2)) (fun _ => zpc_ck (zpc_bs (zKeM.wi h (by decide)) (fun σ1 hσ1 => w_fX12_hlTo_30 hσ1)))
theorem w_fX12_rp_44 {σ0 : zSt} {σ : zSt} {s0 : Int32} (h : zKeM σ0 σ) : zpc (fX12_rp_44 σ s0) (fun r => zKeM σ0 (r.1)) := by
  unfold fX12_rp_44
  exact zpc_some h
theorem w_fX12_rp {σ0 : zSt} {σ : zSt} {x1 : Int32} (h : zKeM σ0 σ) : zpc (fX12_rp σ x1) (fun r => zKeM σ0 (r.1)) := by
  unfold fX12_rp
  exact zpc_if (fun _ => zpc_bi (w_fX12_pair h) (fun σ5 v6 hσ5 => w_fX12_rp_44 hσ5)) (fun _ => zpc_if (fun _ => zpc_bi (w_fX12_pair h) (fun σ3 v4 hσ3 => w_fX12_rp_44 hσ3)) (fun _ => zpc_if (fun _ => zpc_bi (w_fX12_hl h) (fun σ1 v2 hσ1 => w_fX12_rp_44 hσ1)) (fun _ => zpc_ck (w_fX12_rp_44 h))))
theorem w_fX12_rpTo_51 {σ0 : zSt} {σ : zSt} (h : zKeM σ0 σ) : zpc (fX12_rpTo_51 σ) (fun r => zKeM σ0 (r)) := by
  unfold fX12_rpTo_51
  exact zpc_some h
theorem w_fX12_rpTo {σ0 : zSt} {σ : zSt} {x1 : Int32} {x2 : Int32} (h : zKeM σ0 σ) : zpc (fX12_rpTo σ x1 x2) (fun r => zKeM σ0 (r)) := by
  unfold fX12_rpTo
  exact zpc_if (fun _ => zpc_bu (w_fX12_pairTo h) (fun σ4 hσ4 => w_fX12_rpTo_51 hσ4)) (fun _ => zpc_if (fun _ => zpc_bu (w_fX12_pairTo h) (fun σ3 hσ3 => w_fX12_rpTo_51 hσ3)) (fun _ => zpc_if (fun _ => zpc_bu (w_fX12_hlTo h) (fun σ2 hσ2 => w_fX12_rpTo_51 hσ2)) (fun _ => zpc_ck (zpc_bs (zKeM.wi h (by decide)) (fun σ1 hσ1 => w_fX12_rpTo_51 hσ1)))))
theorem w_fX12_m_23 {σ0 : zSt} {σ : zSt} {s0 : Int32} (h : zKeM σ0 σ) : zpc (fX12_m_23 σ s0) (fun r => zKeM σ0 (r.1)) := by
  unfold fX12_m_23
  exact zpc_some h
theorem w_fX12_m {σ0 : zSt} {σ : zSt} (h : zKeM σ0 σ) : zpc (fX12_m σ) (fun r => zKeM σ0 (r.1)) := by
  unfold fX12_m
  exact zpc_if (fun _ => zpc_bi (w_fX12_pair h) (fun σ1 v2 hσ1 => w_fX12_m_23 hσ1)) (fun _ => zpc_ck (w_fX12_m_23 h))
theorem w_fX12_r_74 {σ0 : zSt} {σ : zSt} {x1 : Int32} (h : zKeM σ0 σ) : zpc (fX12_r_74 σ x1) (fun r => zKeM σ0 (r.1)) := by
  unfold fX12_r_74
  exact zpc_ck (zpc_some h)
theorem w_fX12_r_73 {σ0 : zSt} {σ : zSt} {s0 : Int32} (h : zKeM σ0 σ) : zpc (fX12_r_73 σ s0) (fun r => zKeM σ0 (r.1)) := by
  unfold fX12_r_73
  exact zpc_some h
theorem w_fX12_r {σ0 : zSt} {σ : zSt} {x1 : Int32} (h : zKeM σ0 σ) : zpc (fX12_r σ x1) (fun r => zKeM σ0 (r.1)) := by
  unfold fX12_r
  exact zpc_if (fun _ => zpc_bi (w_fX12_m h) (fun σ1 v2 hσ1 => zpc_bi (w_fX12_read hσ1) (fun σ3 v4 hσ3 => zpc_some hσ3))) (fun _ => zpc_if (fun _ => zpc_ck (zpc_some h)) (fun _ => zpc_if (fun _ => w_fX12_r_74 h) (fun _ => zpc_if (fun _ => w_fX12_r_74 h) (fun _ => zpc_if (fun _ => zpc_ck (w_fX12_r_73 h)) (fun _ => zpc_ck (w_fX12_r_73 h))))))
theorem w_fX12_rTo_113 {σ0 : zSt} {σ : zSt} (h : zKeM σ0 σ) : zpc (fX12_rTo_113 σ) (fun r => zKeM σ0 (r)) := by
  unfold fX12_rTo_113
  exact zpc_some h
theorem w_fX12_rTo_104 {σ0 : zSt} {σ : zSt} {x1 : Int32} {x3 : Int32} (h : zKeM σ0 σ) : zpc (fX12_rTo_104 σ x1 x3) (fun r => zKeM σ0 (r)) := by
  unfold fX12_rTo_104
  exact zpc_ck (zpc_bs (zKeM.wi h (by decide)) (fun σ1 hσ1 => w_fX12_rTo_113 hσ1))
theorem w_fX12_rTo_100 {σ0 : zSt} {σ : zSt} {s0 : Int32} {s1 : Int32} (h : zKeM σ0 σ) : zpc (fX12_rTo_100 σ s0 s1) (fun r => zKeM σ0 (r)) := by
  unfold fX12_rTo_100
  exact zpc_ck (zpc_bs (zKeM.wi h (by decide)) (fun σ2 hσ2 => w_fX12_rTo_113 hσ2))
theorem w_fX12_rTo {σ0 : zSt} {σ : zSt} {x1 : Int32} {x2 : Int32} (h : zKeM σ0 σ) : zpc (fX12_rTo σ x1 x2) (fun r => zKeM σ0 (r)) := by
  unfold fX12_rTo
  exact zpc_bv (fun v3 _ => zpc_if (fun _ => zpc_bi (w_fX12_m h) (fun σ5 v6 hσ5 => zpc_bu (w_fX12_write hσ5) (fun σ7 hσ7 => w_fX12_rTo_113 hσ7))) (fun _ => zpc_if (fun _ => zpc_ck (zpc_bs (zKeM.wi h (by decide)) (fun σ4 hσ4 => w_fX12_rTo_113 hσ4))) (fun _ => zpc_if (fun _ => w_fX12_rTo_104 h) (fun _ => zpc_if (fun _ => w_fX12_rTo_104 h) (fun _ => zpc_if (fun _ => zpc_ck (w_fX12_rTo_100 h)) (fun _ => zpc_ck (w_fX12_rTo_100 h)))))))
theorem w_fX12_put_34 {σ0 : zSt} {σ : zSt} {s0 : Int32} {s1 : Int32} (h : zKeM σ0 σ) : zpc (fX12_put_34 σ s0 s1) (fun r => zKeM σ0 (r)) := by
  unfold fX12_put_34
  exact zpc_ck (zpc_bs (zKeM.wi h (by decide)) (fun σ1 hσ1 => zpc_some hσ1))
theorem w_fX12_put {σ0 : zSt} {σ : zSt} {x1 : Int32} {x2 : Int32} (h : zKeM σ0 σ) : zpc (fX12_put σ x1 x2) (fun r => zKeM σ0 (r)) := by
  unfold fX12_put
  exact zpc_if (fun _ => zpc_ck (w_fX12_put_34 h)) (fun _ => zpc_ck (w_fX12_put_34 h))
theorem w_fX12_flag {σ0 : zSt} {σ : zSt} {x1 : Int32} (h : zKeM σ0 σ) : zpc (fX12_flag σ x1) (fun r => zKeM σ0 (r.1)) := by
  unfold fX12_flag
  exact zpc_ck (zpc_some h)
theorem w_fX12_xy_31 {σ0 : zSt} {σ : zSt} {s0 : Int32} {s1 : Int32} (h : zKeM σ0 σ) : zpc (fX12_xy_31 σ s0 s1) (fun r => zKeM σ0 (r)) := by
  unfold fX12_xy_31
  exact zpc_bu (w_fX12_put h) (fun σ1 hσ1 => zpc_some hσ1)
theorem w_fX12_xy_14 {σ0 : zSt} {σ : zSt} {x1 : Int32} {s0 : Int32} {s1 : Int32} (h : zKeM σ0 σ) : zpc (fX12_xy_14 σ x1 s0 s1) (fun r => zKeM σ0 (r)) := by
  unfold fX12_xy_14
  exact zpc_bu (w_fX12_put h) (fun σ2 hσ2 => zpc_if (fun _ => w_fX12_xy_31 hσ2) (fun _ => w_fX12_xy_31 hσ2))
theorem w_fX12_xy {σ0 : zSt} {σ : zSt} {x1 : Int32} (h : zKeM σ0 σ) : zpc (fX12_xy σ x1) (fun r => zKeM σ0 (r)) := by
  unfold fX12_xy
  exact zpc_if (fun _ => w_fX12_xy_14 h) (fun _ => w_fX12_xy_14 h)
theorem w_fX12_by_31 {σ0 : zSt} {σ : zSt} {x1 : Int32} {s0 : Int32} {s1 : Int32} (h : zKeM σ0 σ) : zpc (fX12_by_31 σ x1 s0 s1) (fun r => zKeM σ0 (r)) := by
  unfold fX12_by_31
  exact zpc_bu (w_fX12_put h) (fun σ1 hσ1 => zpc_bu (w_fX12_xy hσ1) (fun σ2 hσ2 => zpc_some hσ2))
theorem w_fX12_by_16 {σ0 : zSt} {σ : zSt} {x1 : Int32} {s0 : Int32} {s1 : Int32} (h : zKeM σ0 σ) : zpc (fX12_by_16 σ x1 s0 s1) (fun r => zKeM σ0 (r)) := by
  unfold fX12_by_16
  exact zpc_bu (w_fX12_put h) (fun σ3 hσ3 => zpc_if (fun _ => w_fX12_by_31 hσ3) (fun _ => w_fX12_by_31 hσ3))
theorem w_fX12_by {σ0 : zSt} {σ : zSt} {x1 : Int32} (h : zKeM σ0 σ) : zpc (fX12_by σ x1) (fun r => zKeM σ0 (r)) := by
  unfold fX12_by
  exact zpc_if (fun _ => w_fX12_by_16 h) (fun _ => w_fX12_by_16 h)
theorem w_fX12_isEven_35 {σ0 : zSt} {σ : zSt} {s0 : Int32} (h : zKeM σ0 σ) : zpc (fX12_isEven_35 σ s0) (fun r => zKeM σ0 (r.1)) := by
  unfold fX12_isEven_35
  exact zpc_ck (zpc_some h)
theorem w_fX12_isEven_4_body {σ0 : zSt} {k4 : zSt → Int32 → Int32 → Int32 → Option (zSt × Int32)} (hk4 : ∀ (y0 : zSt) (y1 : Int32) (y2 : Int32) (y3 : Int32), zKeM σ0 y0 → zpc (k4 y0 y1 y2 y3) (fun r => zKeM σ0 (r.1))) {σ : zSt} {x0 : Int32} {x1 : Int32} {x2 : Int32} (h : zKeM σ0 σ) : zpc (fX12_isEven_4_body k4 σ x0 x1 x2) (fun r => zKeM σ0 (r.1)) := by
  unfold fX12_isEven_4_body
  exact zpc_if (fun _ => zpc_ck (zpc_if (fun _ => w_fX12_isEven_35 h) (fun _ => w_fX12_isEven_35 h))) (fun _ => zpc_bv (fun v1 _ => zpc_bv (fun v2 _ => hk4 _ _ _ _ h)))
theorem w_fX12_isEven_4 {σ0 : zSt} : ∀ (n : Nat) (y0 : zSt) (y1 : Int32) (y2 : Int32) (y3 : Int32), zKeM σ0 y0 → zpc (fX12_isEven_4 n y0 y1 y2 y3) (fun r => zKeM σ0 (r.1)) := by
  intro n
  induction n with
  | zero => intro y0 y1 y2 y3 h; exact zpc_none
  | succ n ih => intro y0 y1 y2 y3 h; exact w_fX12_isEven_4_body ih h
theorem w_fX12_isEven {σ0 : zSt} {σ : zSt} {x0 : Int32} (h : zKeM σ0 σ) : zpc (fX12_isEven σ x0) (fun r => zKeM σ0 (r.1)) := by
  unfold fX12_isEven
  exact w_fX12_isEven_4 _ _ _ _ _ h
theorem w_fX12_cc_64 {σ0 : zSt} {σ : zSt} {s0 : Int32} (h : zKeM σ0 σ) : zpc (fX12_cc_64 σ s0) (fun r => zKeM σ0 (r.1)) := by
  unfold fX12_cc_64
  exact zpc_ck (zpc_some h)
theorem w_fX12_cc_56 {σ0 : zSt} {σ : zSt} {s0 : Int32} {s1 : Int32} (h : zKeM σ0 σ) : zpc (fX12_cc_56 σ s0 s1) (fun r => zKeM σ0 (r.1)) := by
  unfold fX12_cc_56
  exact zpc_if (fun _ => w_fX12_cc_64 h) (fun _ => w_fX12_cc_64 h)
theorem w_fX12_cc_44 {σ0 : zSt} {σ : zSt} {x1 : Int32} {s0 : Int32} (h : zKeM σ0 σ) : zpc (fX12_cc_44 σ x1 s0) (fun r => zKeM σ0 (r.1)) := by
  unfold fX12_cc_44
  exact zpc_ck (zpc_if (fun _ => w_fX12_cc_56 h) (fun _ => w_fX12_cc_56 h))
theorem w_fX12_cc_32 {σ0 : zSt} {σ : zSt} {x1 : Int32} {s0 : Int32} (h : zKeM σ0 σ) : zpc (fX12_cc_32 σ x1 s0) (fun r => zKeM σ0 (r.1)) := by
  unfold fX12_cc_32
  exact zpc_bi (w_fX12_flag h) (fun σ1 v2 hσ1 => zpc_if (fun _ => w_fX12_cc_44 hσ1) (fun _ => w_fX12_cc_44 hσ1))
theorem w_fX12_cc {σ0 : zSt} {σ : zSt} {x1 : Int32} (h : zKeM σ0 σ) : zpc (fX12_cc σ x1) (fun r => zKeM σ0 (r.1)) := by
  unfold fX12_cc
  exact zpc_if (fun _ => zpc_if (fun _ => zpc_if (fun _ => w_fX12_cc_32 h) (fun _ => w_fX12_cc_32 h)) (fun _ => w_fX12_cc_32 h)) (fun _ => w_fX12_cc_32 h)
theorem w_fX12_push {σ0 : zSt} {σ : zSt} {x1 : Int32} (h : zKeM σ0 σ) : zpc (fX12_push σ x1) (fun r => zKeM σ0 (r)) := by
  unfold fX12_push
  exact zpc_ck (zpc_ck (zpc_bs (zKeM.wi h (by decide)) (fun σ1 hσ1 => zpc_ck (zpc_bu (w_fX12_write hσ1) (fun σ2 hσ2 => zpc_ck (zpc_ck (zpc_bs (zKeM.wi hσ2 (by decide)) (fun σ3 hσ3 => zpc_ck (zpc_bu (w_fX12_write hσ3) (fun σ4 hσ4 => zpc_some hσ4))))))))))
theorem w_fX12_pop {σ0 : zSt} {σ : zSt} (h : zKeM σ0 σ) : zpc (fX12_pop σ) (fun r => zKeM σ0 (r.1)) := by
  unfold fX12_pop
  exact zpc_ck (zpc_bi (w_fX12_read h) (fun σ1 v2 hσ1 => zpc_ck (zpc_ck (zpc_bs (zKeM.wi hσ1 (by decide)) (fun σ3 hσ3 => zpc_ck (zpc_bi (w_fX12_read hσ3) (fun σ4 v5 hσ4 => zpc_bv (fun v6 _ => zpc_ck (zpc_ck (zpc_bs (zKeM.wi hσ4 (by decide)) (fun σ7 hσ7 => zpc_some hσ7)))))))))))
theorem w_fX12_grows {σ0 : zSt} {σ : zSt} (h : zKeM σ0 σ) : zpc (fX12_grows σ) (fun r => zKeM σ0 (r)) := by
  unfold fX12_grows
  exact zpc_ck (zpc_ck (zpc_ck (zpc_bs (zKeM.wi h (by decide)) (fun σ1 hσ1 => zpc_some hσ1))))
theorem w_fX12_next {σ0 : zSt} {σ : zSt} (h : zKeM σ0 σ) : zpc (fX12_next σ) (fun r => zKeM σ0 (r.1)) := by
  unfold fX12_next
  exact zpc_ck (zpc_bi (w_fX12_read h) (fun σ1 v2 hσ1 => zpc_ck (zpc_ck (zpc_bs (zKeM.wi hσ1 (by decide)) (fun σ3 hσ3 => zpc_some hσ3)))))
theorem w_fX12_fetch {σ0 : zSt} {σ : zSt} (h : zKeM σ0 σ) : zpc (fX12_fetch σ) (fun r => zKeM σ0 (r.1)) := by
  unfold fX12_fetch
  exact zpc_bi (w_fX12_next h) (fun σ1 v2 hσ1 => zpc_bu (w_fX12_grows hσ1) (fun σ3 hσ3 => zpc_some hσ3))
theorem w_fX12_nextWord {σ0 : zSt} {σ : zSt} (h : zKeM σ0 σ) : zpc (fX12_nextWord σ) (fun r => zKeM σ0 (r.1)) := by
  unfold fX12_nextWord
  exact zpc_bi (w_fX12_next h) (fun σ1 v2 hσ1 => zpc_bi (w_fX12_next hσ1) (fun σ3 v4 hσ3 => zpc_some hσ3))
theorem w_fX12_signed_16 {σ0 : zSt} {σ : zSt} {s0 : Int32} (h : zKeM σ0 σ) : zpc (fX12_signed_16 σ s0) (fun r => zKeM σ0 (r.1)) := by
  unfold fX12_signed_16
  exact zpc_some h
theorem w_fX12_signed {σ0 : zSt} {σ : zSt} {x0 : Int32} (h : zKeM σ0 σ) : zpc (fX12_signed σ x0) (fun r => zKeM σ0 (r.1)) := by
  unfold fX12_signed
  exact zpc_if (fun _ => w_fX12_signed_16 h) (fun _ => w_fX12_signed_16 h)
theorem w_fX12_call {σ0 : zSt} {σ : zSt} {x1 : Int32} (h : zKeM σ0 σ) : zpc (fX12_call σ x1) (fun r => zKeM σ0 (r)) := by
  unfold fX12_call
  exact zpc_ck (zpc_bu (w_fX12_push h) (fun σ1 hσ1 => zpc_ck (zpc_bs (zKeM.wi hσ1 (by decide)) (fun σ2 hσ2 => zpc_ck (zpc_bs (zKeM.wi hσ2 (by decide)) (fun σ3 hσ3 => zpc_some hσ3))))))
theorem w_fX12_change {σ0 : zSt} {σ : zSt} {x1 : Int32} {x2 : Int32} (h : zKeM σ0 σ) : zpc (fX12_change σ x1 x2) (fun r => zKeM σ0 (r)) := by
  unfold fX12_change
  exact zpc_ck (zpc_bv (fun v1 _ => zpc_ck (zpc_ck (zpc_bs (zKeM.wi h (by decide)) (fun σ2 hσ2 => zpc_ck (zpc_bs (zKeM.wi hσ2 (by decide)) (fun σ3 hσ3 => zpc_some hσ3)))))))
theorem w_fX12_bit {σ0 : zSt} {σ : zSt} {x1 : Int32} {x2 : Int32} (h : zKeM σ0 σ) : zpc (fX12_bit σ x1 x2) (fun r => zKeM σ0 (r.1)) := by
  unfold fX12_bit
  exact zpc_ck (zpc_some h)
theorem w_fX12_mode_57 {σ0 : zSt} {σ : zSt} {s0 : Int32} (h : zKeM σ0 σ) : zpc (fX12_mode_57 σ s0) (fun r => zKeM σ0 (r.1)) := by
  unfold fX12_mode_57
  exact zpc_some h
theorem w_fX12_mode {σ0 : zSt} {σ : zSt} (h : zKeM σ0 σ) : zpc (fX12_mode σ) (fun r => zKeM σ0 (r.1)) := by
  unfold fX12_mode
  exact zpc_bi (w_fX12_bit h) (fun σ1 v2 hσ1 => zpc_if (fun _ => w_fX12_mode_57 hσ1) (fun _ => zpc_bi (w_fX12_bit hσ1) (fun σ3 v4 hσ3 => zpc_if (fun _ => w_fX12_mode_57 hσ3) (fun _ => zpc_bi (w_fX12_bit hσ3) (fun σ5 v6 hσ5 => zpc_if (fun _ => w_fX12_mode_57 hσ5) (fun _ => zpc_bi (w_fX12_bit hσ5) (fun σ7 v8 hσ7 => zpc_if (fun _ => w_fX12_mode_57 hσ7) (fun _ => w_fX12_mode_57 hσ7))))))))
theorem w_fX12_height_32 {σ0 : zSt} {σ : zSt} (h : zKeM σ0 σ) : zpc (fX12_height_32 σ) (fun r => zKeM σ0 (r.1)) := by
  unfold fX12_height_32
  exact zpc_some h
theorem w_fX12_height_55 {σ0 : zSt} {σ : zSt} {s0 : Int32} (h : zKeM σ0 σ) : zpc (fX12_height_55 σ s0) (fun r => zKeM σ0 (r.1)) := by
  unfold fX12_height_55
  exact zpc_some h
theorem w_fX12_height {σ0 : zSt} {σ : zSt} (h : zKeM σ0 σ) : zpc (fX12_height σ) (fun r => zKeM σ0 (r.1)) := by
  unfold fX12_height
  exact zpc_bi (w_fX12_mode h) (fun σ1 v2 hσ1 => zpc_if (fun _ => zpc_bi (w_fX12_bit hσ1) (fun σ3 v4 hσ3 => zpc_if (fun _ => w_fX12_height_32 hσ3) (fun _ => zpc_bi (w_fX12_bit hσ3) (fun σ5 v6 hσ5 => zpc_bi (w_fX12_bit hσ5) (fun σ7 v8 hσ7 => zpc_if (fun _ => w_fX12_height_32 hσ7) (fun _ => zpc_bi (w_fX12_bit hσ7) (fun σ9 v10 hσ9 => zpc_if (fun _ => w_fX12_height_55 hσ9) (fun _ => w_fX12_height_55 hσ9)))))))) (fun _ => w_fX12_height_32 hσ1))
theorem w_fX12_vCount_109 {σ0 : zSt} {σ : zSt} {s0 : Int32} (h : zKeM σ0 σ) : zpc (fX12_vCount_109 σ s0) (fun r => zKeM σ0 (r.1)) := by
  unfold fX12_vCount_109
  exact zpc_some h
theorem w_fX12_vCount_108 {σ0 : zSt} {σ : zSt} {s0 : Int32} {s1 : Int32} (h : zKeM σ0 σ) : zpc (fX12_vCount_108 σ s0 s1) (fun r => zKeM σ0 (r.1)) := by
  unfold fX12_vCount_108
  exact w_fX12_vCount_109 h
theorem w_fX12_vCount_82 {σ0 : zSt} {σ : zSt} {x1 : Int32} {s0 : Int32} (h : zKeM σ0 σ) : zpc (fX12_vCount_82 σ x1 s0) (fun r => zKeM σ0 (r.1)) := by
  unfold fX12_vCount_82
  exact zpc_if (fun _ => zpc_if (fun _ => w_fX12_vCount_108 h) (fun _ => w_fX12_vCount_108 h)) (fun _ => w_fX12_vCount_109 h)
theorem w_fX12_vCount {σ0 : zSt} {σ : zSt} (h : zKeM σ0 σ) : zpc (fX12_vCount σ) (fun r => zKeM σ0 (r.1)) := by
  unfold fX12_vCount
  exact zpc_ck (zpc_bv (fun v1 _ => zpc_bi (w_fX12_height h) (fun σ2 v3 hσ2 => zpc_if (fun _ => zpc_if (fun _ => w_fX12_vCount_82 hσ2) (fun _ => zpc_if (fun _ => w_fX12_vCount_82 hσ2) (fun _ => w_fX12_vCount_82 hσ2))) (fun _ => zpc_if (fun _ => w_fX12_vCount_82 hσ2) (fun _ => zpc_if (fun _ => w_fX12_vCount_82 hσ2) (fun _ => w_fX12_vCount_82 hσ2))))))
theorem w_fX12_status {σ0 : zSt} {σ : zSt} (h : zKeM σ0 σ) : zpc (fX12_status σ) (fun r => zKeM σ0 (r.1)) := by
  unfold fX12_status
  exact zpc_ck (zpc_bv (fun v1 _ => zpc_ck (zpc_bs (zKeM.wi h (by decide)) (fun σ2 hσ2 => zpc_ck (zpc_bs (zKeM.wi hσ2 (by decide)) (fun σ3 hσ3 => zpc_ck (zpc_bs (zKeM.wi hσ3 (by decide)) (fun σ4 hσ4 => zpc_some hσ4))))))))
theorem w_fX12_video8 {σ0 : zSt} {σ : zSt} {x1 : Int32} (h : zKeM σ0 σ) : zpc (fX12_video8 σ x1) (fun r => zKeM σ0 (r.1)) := by
  unfold fX12_video8
  exact zpc_ck (zpc_some h)
theorem w_fX12_further {σ0 : zSt} {σ : zSt} (h : zKeM σ0 σ) : zpc (fX12_further σ) (fun r => zKeM σ0 (r)) := by
  unfold fX12_further
  exact zpc_ck (zpc_ck (zpc_bs (zKeM.wi h (by decide)) (fun σ1 hσ1 => zpc_some hσ1)))
theorem w_fX12_data {σ0 : zSt} {σ : zSt} (h : zKeM σ0 σ) : zpc (fX12_data σ) (fun r => zKeM σ0 (r.1)) := by
  unfold fX12_data
  exact zpc_ck (zpc_bv (fun v1 _ => zpc_ck (zpc_bs (zKeM.wi h (by decide)) (fun σ2 hσ2 => zpc_ck (zpc_bi (w_fX12_video8 hσ2) (fun σ3 v4 hσ3 => zpc_ck (zpc_bs (zKeM.wi hσ3 (by decide)) (fun σ5 hσ5 => zpc_bu (w_fX12_further hσ5) (fun σ6 hσ6 => zpc_some hσ6)))))))))
theorem w_fX12_lineAt_45 {σ0 : zSt} {σ : zSt} {s0 : Int32} (h : zKeM σ0 σ) : zpc (fX12_lineAt_45 σ s0) (fun r => zKeM σ0 (r.1)) := by
  unfold fX12_lineAt_45
  exact zpc_some h
theorem w_fX12_lineAt {σ0 : zSt} {σ : zSt} {x1 : Int32} (h : zKeM σ0 σ) : zpc (fX12_lineAt σ x1) (fun r => zKeM σ0 (r.1)) := by
  unfold fX12_lineAt
  exact zpc_ck (zpc_if (fun _ => zpc_ck (w_fX12_lineAt_45 h)) (fun _ => zpc_ck (w_fX12_lineAt_45 h)))
theorem w_fX12_without_20 {σ0 : zSt} {σ : zSt} {s0 : Int32} (h : zKeM σ0 σ) : zpc (fX12_without_20 σ s0) (fun r => zKeM σ0 (r.1)) := by
  unfold fX12_without_20
  exact zpc_some h
theorem w_fX12_without {σ0 : zSt} {σ : zSt} {x1 : Int32} {x2 : Int32} {x3 : Int32} (h : zKeM σ0 σ) : zpc (fX12_without σ x1 x2 x3) (fun r => zKeM σ0 (r.1)) := by
  unfold fX12_without
  exact zpc_if (fun _ => w_fX12_without_20 h) (fun _ => w_fX12_without_20 h)
theorem w_fX12_port_32 {σ0 : zSt} {σ : zSt} (h : zKeM σ0 σ) : zpc (fX12_port_32 σ) (fun r => zKeM σ0 (r.1)) := by
  unfold fX12_port_32
  exact zpc_some h
theorem w_fX12_port_73 {σ0 : zSt} {σ : zSt} {s0 : Int32} (h : zKeM σ0 σ) : zpc (fX12_port_73 σ s0) (fun r => zKeM σ0 (r.1)) := by
  unfold fX12_port_73
  exact zpc_some h
theorem w_fX12_port_60 {σ0 : zSt} {σ : zSt} {s0 : Int32} {s1 : Int32} (h : zKeM σ0 σ) : zpc (fX12_port_60 σ s0 s1) (fun r => zKeM σ0 (r.1)) := by
  unfold fX12_port_60
  exact w_fX12_port_73 h
theorem w_fX12_port_99 {σ0 : zSt} {σ : zSt} {s0 : Int32} (h : zKeM σ0 σ) : zpc (fX12_port_99 σ s0) (fun r => zKeM σ0 (r.1)) := by
  unfold fX12_port_99
  exact zpc_some h
theorem w_fX12_port_122 {σ0 : zSt} {σ : zSt} {s0 : Int32} (h : zKeM σ0 σ) : zpc (fX12_port_122 σ s0) (fun r => zKeM σ0 (r.1)) := by
  unfold fX12_port_122
  exact zpc_some h
theorem w_fX12_port_230 {σ0 : zSt} {σ : zSt} {s0 : Int32} (h : zKeM σ0 σ) : zpc (fX12_port_230 σ s0) (fun r => zKeM σ0 (r.1)) := by
  unfold fX12_port_230
  exact zpc_some h
theorem w_fX12_port_289 {σ0 : zSt} {σ : zSt} {s0 : Int32} (h : zKeM σ0 σ) : zpc (fX12_port_289 σ s0) (fun r => zKeM σ0 (r.1)) := by
  unfold fX12_port_289
  exact zpc_some h
theorem w_fX12_port_147 {σ0 : zSt} {σ : zSt} {x2 : Int32} (h : zKeM σ0 σ) : zpc (fX12_port_147 σ x2) (fun r => zKeM σ0 (r.1)) := by
  unfold fX12_port_147
  exact zpc_if (fun _ => zpc_ck (zpc_ck (zpc_bv (fun v1 _ => zpc_ck (zpc_if (fun _ => zpc_ck (zpc_bi (w_fX12_without h) (fun σ2 v3 hσ2 => w_fX12_port_289 hσ2))) (fun _ => w_fX12_port_289 h)))))) (fun _ => zpc_ck (zpc_bv (fun v4 _ => zpc_bi (w_fX12_lineAt h) (fun σ5 v6 hσ5 => zpc_bi (w_fX12_without hσ5) (fun σ7 v8 hσ7 => zpc_bi (w_fX12_lineAt hσ7) (fun σ9 v10 hσ9 => zpc_bi (w_fX12_without hσ9) (fun σ11 v12 hσ11 => zpc_ck (zpc_if (fun _ => zpc_ck (zpc_bi (w_fX12_without hσ11) (fun σ13 v14 hσ13 => w_fX12_port_230 hσ13))) (fun _ => w_fX12_port_230 hσ11)))))))))
theorem w_fX12_port_12 {σ0 : zSt} {σ : zSt} {x1 : Int32} {s0 : Int32} (h : zKeM σ0 σ) : zpc (fX12_port_12 σ x1 s0) (fun r => zKeM σ0 (r.1)) := by
  unfold fX12_port_12
  exact zpc_if (fun _ => zpc_if (fun _ => zpc_if (fun _ => zpc_if (fun _ => zpc_if (fun _ => w_fX12_port_147 h) (fun _ => zpc_ck (zpc_some h))) (fun _ => w_fX12_port_147 h)) (fun _ => zpc_if (fun _ => zpc_bi (w_fX12_data h) (fun σ15 v16 hσ15 => w_fX12_port_122 hσ15)) (fun _ => zpc_bi (w_fX12_status h) (fun σ17 v18 hσ17 => w_fX12_port_122 hσ17)))) (fun _ => zpc_if (fun _ => zpc_bi (w_fX12_vCount h) (fun σ19 v20 hσ19 => w_fX12_port_99 hσ19)) (fun _ => zpc_ck (w_fX12_port_99 h)))) (fun _ => zpc_if (fun _ => zpc_if (fun _ => zpc_if (fun _ => zpc_ck (zpc_if (fun _ => w_fX12_port_60 h) (fun _ => w_fX12_port_60 h))) (fun _ => zpc_ck (w_fX12_port_73 h))) (fun _ => w_fX12_port_32 h)) (fun _ => w_fX12_port_32 h))
theorem w_fX12_port {σ0 : zSt} {σ : zSt} {x1 : Int32} (h : zKeM σ0 σ) : zpc (fX12_port σ x1) (fun r => zKeM σ0 (r.1)) := by
  unfold fX12_port
  exact zpc_ck (zpc_if (fun _ => w_fX12_port_12 h) (fun _ => w_fX12_port_12 h))
theorem w_fX12_hCount_27 {σ0 : zSt} {σ : zSt} {s0 : Int32} (h : zKeM σ0 σ) : zpc (fX12_hCount_27 σ s0) (fun r => zKeM σ0 (r.1)) := by
  unfold fX12_hCount_27
  exact zpc_some h
theorem w_fX12_hCount {σ0 : zSt} {σ : zSt} (h : zKeM σ0 σ) : zpc (fX12_hCount σ) (fun r => zKeM σ0 (r.1)) := by
  unfold fX12_hCount
  exact zpc_ck (zpc_ck (zpc_bv (fun v1 _ => zpc_if (fun _ => w_fX12_hCount_27 h) (fun _ => w_fX12_hCount_27 h))))
theorem w_fX12_noise_141 {σ0 : zSt} {σ : zSt} (h : zKeM σ0 σ) : zpc (fX12_noise_141 σ) (fun r => zKeM σ0 (r)) := by
  unfold fX12_noise_141
  exact zpc_some h
theorem w_fX12_noise_140 {σ0 : zSt} {σ : zSt} {s0 : Int32} {s1 : Int32} (h : zKeM σ0 σ) : zpc (fX12_noise_140 σ s0 s1) (fun r => zKeM σ0 (r)) := by
  unfold fX12_noise_140
  exact zpc_ck (zpc_bs (zKeM.wi h (by decide)) (fun σ1 hσ1 => w_fX12_noise_141 hσ1))
theorem w_fX12_noise_19 {σ0 : zSt} {σ : zSt} {x1 : Int32} (h : zKeM σ0 σ) : zpc (fX12_noise_19 σ x1) (fun r => zKeM σ0 (r)) := by
  unfold fX12_noise_19
  exact zpc_ck (zpc_ck (zpc_bv (fun v2 _ => zpc_ck (zpc_ck (zpc_if (fun _ => zpc_ck (zpc_bs (zKeM.wi h (by decide)) (fun σ5 hσ5 => w_fX12_noise_141 hσ5))) (fun _ => zpc_if (fun _ => zpc_ck (zpc_bs (zKeM.wi h (by decide)) (fun σ3 hσ3 => zpc_ck (zpc_bs (zKeM.wi hσ3 (by decide)) (fun σ4 hσ4 => w_fX12_noise_141 hσ4))))) (fun _ => zpc_if (fun _ => zpc_ck (w_fX12_noise_140 h)) (fun _ => zpc_ck (w_fX12_noise_140 h)))))))))
theorem w_fX12_noise {σ0 : zSt} {σ : zSt} {x1 : Int32} (h : zKeM σ0 σ) : zpc (fX12_noise σ x1) (fun r => zKeM σ0 (r)) := by
  unfold fX12_noise
  exact zpc_if (fun _ => w_fX12_noise_19 h) (fun _ => zpc_ck (zpc_bs (zKeM.wi h (by decide)) (fun σ6 hσ6 => w_fX12_noise_19 hσ6)))
theorem w_fX12_control_162 {σ0 : zSt} {σ : zSt} (h : zKeM σ0 σ) : zpc (fX12_control_162 σ) (fun r => zKeM σ0 (r)) := by
  unfold fX12_control_162
  exact zpc_some h
theorem w_fX12_control {σ0 : zSt} {σ : zSt} {x1 : Int32} (h : zKeM σ0 σ) : zpc (fX12_control σ x1) (fun r => zKeM σ0 (r)) := by
  unfold fX12_control
  exact zpc_ck (zpc_if (fun _ => zpc_ck (zpc_ck (zpc_bs (zKeM.wi h (by decide)) (fun σ9 hσ9 => zpc_ck (zpc_bs (zKeM.wi hσ9 (by decide)) (fun σ10 hσ10 => zpc_some hσ10)))))) (fun _ => zpc_ck (zpc_bs (zKeM.wi h (by decide)) (fun σ1 hσ1 => zpc_ck (zpc_ck (zpc_bs (zKeM.wi hσ1 (by decide)) (fun σ2 hσ2 => zpc_ck (zpc_bs (zKeM.wi hσ2 (by decide)) (fun σ3 hσ3 => zpc_ck (zpc_if (fun _ => zpc_ck (zpc_bi (w_fX12_video8 hσ3) (fun σ5 v6 hσ5 => zpc_ck (zpc_bs (zKeM.wi hσ5 (by decide)) (fun σ7 hσ7 => zpc_bu (w_fX12_further hσ7) (fun σ8 hσ8 => w_fX12_control_162 hσ8)))))) (fun _ => zpc_ck (zpc_if (fun _ => zpc_ck (zpc_if (fun _ => w_fX12_control_162 hσ3) (fun _ => zpc_ck (zpc_ck (zpc_ck (zpc_bs (zKeM.wi hσ3 (by decide)) (fun σ4 hσ4 => w_fX12_control_162 hσ4))))))) (fun _ => w_fX12_control_162 hσ3)))))))))))))
theorem w_fX12_dataTo_115 {σ0 : zSt} {σ : zSt} (h : zKeM σ0 σ) : zpc (fX12_dataTo_115 σ) (fun r => zKeM σ0 (r)) := by
  unfold fX12_dataTo_115
  exact zpc_bu (w_fX12_further h) (fun σ1 hσ1 => zpc_some hσ1)
theorem w_fX12_dataTo {σ0 : zSt} {σ : zSt} {x1 : Int32} (h : zKeM σ0 σ) : zpc (fX12_dataTo σ x1) (fun r => zKeM σ0 (r)) := by
  unfold fX12_dataTo
  exact zpc_ck (zpc_bs (zKeM.wi h (by decide)) (fun σ2 hσ2 => zpc_ck (zpc_bs (zKeM.wi hσ2 (by decide)) (fun σ3 hσ3 => zpc_ck (zpc_bv (fun v4 _ => zpc_ck (zpc_if (fun _ => zpc_if (fun _ => zpc_ck (zpc_if (fun _ => zpc_ck (zpc_bs (zKeM.wi hσ3 (by decide)) (fun σ7 hσ7 => w_fX12_dataTo_115 hσ7))) (fun _ => zpc_ck (zpc_ck (zpc_ck (zpc_bs (zKeM.wi hσ3 (by decide)) (fun σ5 hσ5 => zpc_ck (zpc_ck (zpc_bs (zKeM.wi hσ5 (by decide)) (fun σ6 hσ6 => w_fX12_dataTo_115 hσ6)))))))))) (fun _ => zpc_ck (zpc_ck (zpc_bs (zKeM.wi hσ3 (by decide)) (fun σ8 hσ8 => w_fX12_dataTo_115 hσ8))))) (fun _ => zpc_ck (zpc_bs (zKeM.wi hσ3 (by decide)) (fun σ9 hσ9 => w_fX12_dataTo_115 hσ9))))))))))
theorem w_fX12_portTo_267 {σ0 : zSt} {σ : zSt} (h : zKeM σ0 σ) : zpc (fX12_portTo_267 σ) (fun r => zKeM σ0 (r)) := by
  unfold fX12_portTo_267
  exact zpc_some h
theorem w_fX12_portTo_140 {σ0 : zSt} {σ : zSt} (h : zKeM σ0 σ) : zpc (fX12_portTo_140 σ) (fun r => zKeM σ0 (r)) := by
  unfold fX12_portTo_140
  exact w_fX12_portTo_267 h
theorem w_fX12_portTo_129 {σ0 : zSt} {σ : zSt} (h : zKeM σ0 σ) : zpc (fX12_portTo_129 σ) (fun r => zKeM σ0 (r)) := by
  unfold fX12_portTo_129
  exact zpc_bi (w_fX12_hCount h) (fun σ1 v2 hσ1 => zpc_ck (zpc_bs (zKeM.wi hσ1 (by decide)) (fun σ3 hσ3 => w_fX12_portTo_140 hσ3)))
theorem w_fX12_portTo_115 {σ0 : zSt} {σ : zSt} {x5 : Int32} (h : zKeM σ0 σ) : zpc (fX12_portTo_115 σ x5) (fun r => zKeM σ0 (r)) := by
  unfold fX12_portTo_115
  exact zpc_if (fun _ => zpc_bi (w_fX12_lineAt h) (fun σ4 v5 hσ4 => zpc_if (fun _ => w_fX12_portTo_129 hσ4) (fun _ => w_fX12_portTo_140 hσ4))) (fun _ => w_fX12_portTo_140 h)
theorem w_fX12_portTo_75 {σ0 : zSt} {σ : zSt} {x2 : Int32} {x3 : Int32} (h : zKeM σ0 σ) : zpc (fX12_portTo_75 σ x2 x3) (fun r => zKeM σ0 (r)) := by
  unfold fX12_portTo_75
  exact zpc_if (fun _ => w_fX12_portTo_267 h) (fun _ => zpc_bi (w_fX12_lineAt h) (fun σ6 v7 hσ6 => zpc_bi (w_fX12_lineAt hσ6) (fun σ8 v9 hσ8 => zpc_ck (zpc_bs (zKeM.wi hσ8 (by decide)) (fun σ10 hσ10 => zpc_if (fun _ => zpc_bi (w_fX12_lineAt hσ10) (fun σ11 v12 hσ11 => zpc_if (fun _ => w_fX12_portTo_129 hσ11) (fun _ => w_fX12_portTo_115 hσ11))) (fun _ => w_fX12_portTo_115 hσ10))))))
theorem w_fX12_portTo_50 {σ0 : zSt} {σ : zSt} {x1 : Int32} {x2 : Int32} {x3 : Int32} (h : zKeM σ0 σ) : zpc (fX12_portTo_50 σ x1 x2 x3) (fun r => zKeM σ0 (r)) := by
  unfold fX12_portTo_50
  exact zpc_if (fun _ => zpc_if (fun _ => zpc_ck (zpc_bs (zKeM.wi h (by decide)) (fun σ13 hσ13 => w_fX12_portTo_267 hσ13))) (fun _ => w_fX12_portTo_75 h)) (fun _ => w_fX12_portTo_75 h)
theorem w_fX12_portTo_12 {σ0 : zSt} {σ : zSt} {x1 : Int32} {x2 : Int32} {s0 : Int32} (h : zKeM σ0 σ) : zpc (fX12_portTo_12 σ x1 x2 s0) (fun r => zKeM σ0 (r)) := by
  unfold fX12_portTo_12
  exact zpc_if (fun _ => zpc_if (fun _ => zpc_if (fun _ => zpc_if (fun _ => w_fX12_portTo_267 h) (fun _ => zpc_if (fun _ => w_fX12_portTo_267 h) (fun _ => zpc_if (fun _ => w_fX12_portTo_267 h) (fun _ => zpc_if (fun _ => zpc_ck (zpc_ck (zpc_bs (zKeM.wi h (by decide)) (fun σ16 hσ16 => w_fX12_portTo_267 hσ16)))) (fun _ => zpc_if (fun _ => zpc_ck (zpc_ck (zpc_bs (zKeM.wi h (by decide)) (fun σ15 hσ15 => w_fX12_portTo_267 hσ15)))) (fun _ => zpc_ck (zpc_ck (zpc_bs (zKeM.wi h (by decide)) (fun σ14 hσ14 => w_fX12_portTo_267 hσ14))))))))) (fun _ => zpc_if (fun _ => zpc_bu (w_fX12_dataTo h) (fun σ17 hσ17 => w_fX12_portTo_267 hσ17)) (fun _ => zpc_bu (w_fX12_control h) (fun σ18 hσ18 => w_fX12_portTo_267 hσ18)))) (fun _ => zpc_bu (w_fX12_noise h) (fun σ19 hσ19 => w_fX12_portTo_267 hσ19))) (fun _ => zpc_if (fun _ => zpc_if (fun _ => w_fX12_portTo_50 h) (fun _ => zpc_if (fun _ => w_fX12_portTo_50 h) (fun _ => zpc_ck (zpc_bs (zKeM.wi h (by decide)) (fun σ20 hσ20 => w_fX12_portTo_267 hσ20))))) (fun _ => w_fX12_portTo_50 h))
theorem w_fX12_portTo {σ0 : zSt} {σ : zSt} {x1 : Int32} {x2 : Int32} (h : zKeM σ0 σ) : zpc (fX12_portTo σ x1 x2) (fun r => zKeM σ0 (r)) := by
  unfold fX12_portTo
  exact zpc_ck (zpc_if (fun _ => w_fX12_portTo_12 h) (fun _ => w_fX12_portTo_12 h))
theorem w_fX12_turned_118 {σ0 : zSt} {σ : zSt} {s0 : Int32} (h : zKeM σ0 σ) : zpc (fX12_turned_118 σ s0) (fun r => zKeM σ0 (r.1)) := by
  unfold fX12_turned_118
  exact zpc_some h
theorem w_fX12_turned_89 {σ0 : zSt} {σ : zSt} {x2 : Int32} {x3 : Int32} {x5 : Int32} {s0 : Int32} {s1 : Int32} (h : zKeM σ0 σ) : zpc (fX12_turned_89 σ x2 x3 x5 s0 s1) (fun r => zKeM σ0 (r.1)) := by
  unfold fX12_turned_89
  exact zpc_bu (w_fX12_put h) (fun σ1 hσ1 => zpc_if (fun _ => w_fX12_turned_118 hσ1) (fun _ => w_fX12_turned_118 hσ1))
theorem w_fX12_turned_74 {σ0 : zSt} {σ : zSt} {x2 : Int32} {x3 : Int32} {x4 : Int32} {s0 : Int32} (h : zKeM σ0 σ) : zpc (fX12_turned_74 σ x2 x3 x4 s0) (fun r => zKeM σ0 (r.1)) := by
  unfold fX12_turned_74
  exact zpc_if (fun _ => w_fX12_turned_89 h) (fun _ => w_fX12_turned_89 h)
theorem w_fX12_turned_26 {σ0 : zSt} {σ : zSt} {x1 : Int32} {x2 : Int32} {x3 : Int32} {s0 : Int32} (h : zKeM σ0 σ) : zpc (fX12_turned_26 σ x1 x2 x3 s0) (fun r => zKeM σ0 (r.1)) := by
  unfold fX12_turned_26
  exact zpc_if (fun _ => zpc_if (fun _ => zpc_if (fun _ => w_fX12_turned_74 h) (fun _ => zpc_if (fun _ => w_fX12_turned_74 h) (fun _ => w_fX12_turned_74 h))) (fun _ => zpc_bi (w_fX12_flag h) (fun σ2 v3 hσ2 => w_fX12_turned_74 hσ2))) (fun _ => w_fX12_turned_74 h)
theorem w_fX12_turned_11 {σ0 : zSt} {σ : zSt} {x1 : Int32} {x2 : Int32} {s0 : Int32} (h : zKeM σ0 σ) : zpc (fX12_turned_11 σ x1 x2 s0) (fun r => zKeM σ0 (r.1)) := by
  unfold fX12_turned_11
  exact zpc_if (fun _ => w_fX12_turned_26 h) (fun _ => w_fX12_turned_26 h)
theorem w_fX12_turned {σ0 : zSt} {σ : zSt} {x1 : Int32} {x2 : Int32} (h : zKeM σ0 σ) : zpc (fX12_turned σ x1 x2) (fun r => zKeM σ0 (r.1)) := by
  unfold fX12_turned
  exact zpc_ck (zpc_if (fun _ => w_fX12_turned_11 h) (fun _ => w_fX12_turned_11 h))
theorem w_fX12_turn_122 {σ0 : zSt} {σ : zSt} {s0 : Int32} (h : zKeM σ0 σ) : zpc (fX12_turn_122 σ s0) (fun r => zKeM σ0 (r.1)) := by
  unfold fX12_turn_122
  exact zpc_some h
theorem w_fX12_turn_106 {σ0 : zSt} {σ : zSt} {x3 : Int32} {s0 : Int32} (h : zKeM σ0 σ) : zpc (fX12_turn_106 σ x3 s0) (fun r => zKeM σ0 (r.1)) := by
  unfold fX12_turn_106
  exact zpc_bu (w_fX12_xy h) (fun σ1 hσ1 => zpc_if (fun _ => w_fX12_turn_122 hσ1) (fun _ => w_fX12_turn_122 hσ1))
theorem w_fX12_turn_69 {σ0 : zSt} {σ : zSt} {x3 : Int32} {x4 : Int32} {s0 : Int32} {s1 : Int32} (h : zKeM σ0 σ) : zpc (fX12_turn_69 σ x3 x4 s0 s1) (fun r => zKeM σ0 (r.1)) := by
  unfold fX12_turn_69
  exact zpc_bu (w_fX12_put h) (fun σ2 hσ2 => zpc_bu (w_fX12_put hσ2) (fun σ3 hσ3 => zpc_bu (w_fX12_put hσ3) (fun σ4 hσ4 => zpc_if (fun _ => zpc_ck (w_fX12_turn_106 hσ4)) (fun _ => w_fX12_turn_106 hσ4))))
theorem w_fX12_turn_219 {σ0 : zSt} {σ : zSt} {s0 : Int32} (h : zKeM σ0 σ) : zpc (fX12_turn_219 σ s0) (fun r => zKeM σ0 (r.1)) := by
  unfold fX12_turn_219
  exact zpc_some h
theorem w_fX12_turn_193 {σ0 : zSt} {σ : zSt} {x3 : Int32} {x4 : Int32} (h : zKeM σ0 σ) : zpc (fX12_turn_193 σ x3 x4) (fun r => zKeM σ0 (r.1)) := by
  unfold fX12_turn_193
  exact zpc_bu (w_fX12_rTo h) (fun σ5 hσ5 => zpc_bs (zKeM.w0 hσ5 (by decide)) (fun σ6 hσ6 => zpc_if (fun _ => w_fX12_turn_219 hσ6) (fun _ => w_fX12_turn_219 hσ6)))
theorem w_fX12_turn_191 {σ0 : zSt} {σ : zSt} {x3 : Int32} {s0 : Int32} (h : zKeM σ0 σ) : zpc (fX12_turn_191 σ x3 s0) (fun r => zKeM σ0 (r.1)) := by
  unfold fX12_turn_191
  exact w_fX12_turn_193 h
theorem w_fX12_turn_23 {σ0 : zSt} {σ : zSt} {x1 : Int32} {x2 : Int32} {s0 : Int32} (h : zKeM σ0 σ) : zpc (fX12_turn_23 σ x1 x2 s0) (fun r => zKeM σ0 (r.1)) := by
  unfold fX12_turn_23
  exact zpc_bi (w_fX12_r h) (fun σ7 v8 hσ7 => zpc_bv (fun v9 _ => zpc_if (fun _ => zpc_bv (fun v18 _ => zpc_bu (w_fX12_by hσ7) (fun σ19 hσ19 => zpc_if (fun _ => w_fX12_turn_69 hσ19) (fun _ => w_fX12_turn_69 hσ19)))) (fun _ => zpc_if (fun _ => zpc_bi (w_fX12_turned hσ7) (fun σ10 v11 hσ10 => zpc_bu (w_fX12_by hσ10) (fun σ12 hσ12 => zpc_bi (w_fX12_isEven hσ12) (fun σ13 v14 hσ13 => zpc_bu (w_fX12_put hσ13) (fun σ15 hσ15 => zpc_bu (w_fX12_put hσ15) (fun σ16 hσ16 => zpc_bu (w_fX12_put hσ16) (fun σ17 hσ17 => w_fX12_turn_193 hσ17))))))) (fun _ => zpc_if (fun _ => w_fX12_turn_191 hσ7) (fun _ => w_fX12_turn_191 hσ7)))))
theorem w_fX12_turn {σ0 : zSt} {σ : zSt} {x1 : Int32} (h : zKeM σ0 σ) : zpc (fX12_turn σ x1) (fun r => zKeM σ0 (r.1)) := by
  unfold fX12_turn
  exact zpc_bv (fun v20 _ => zpc_if (fun _ => w_fX12_turn_23 h) (fun _ => w_fX12_turn_23 h))
theorem w_fX12_turns {σ0 : zSt} {σ : zSt} (h : zKeM σ0 σ) : zpc (fX12_turns σ) (fun r => zKeM σ0 (r.1)) := by
  unfold fX12_turns
  exact zpc_bi (w_fX12_fetch h) (fun σ1 v2 hσ1 => zpc_bi (w_fX12_turn hσ1) (fun σ3 v4 hσ3 => zpc_some hσ3))
theorem w_fX12_three_200 {σ0 : zSt} {σ : zSt} {s0 : Int32} (h : zKeM σ0 σ) : zpc (fX12_three_200 σ s0) (fun r => zKeM σ0 (r.1)) := by
  unfold fX12_three_200
  exact zpc_some h
theorem w_fX12_three_189 {σ0 : zSt} {σ : zSt} {x3 : Int32} (h : zKeM σ0 σ) : zpc (fX12_three_189 σ x3) (fun r => zKeM σ0 (r.1)) := by
  unfold fX12_three_189
  exact zpc_if (fun _ => w_fX12_three_200 h) (fun _ => w_fX12_three_200 h)
theorem w_fX12_three_173 {σ0 : zSt} {σ : zSt} {x3 : Int32} (h : zKeM σ0 σ) : zpc (fX12_three_173 σ x3) (fun r => zKeM σ0 (r.1)) := by
  unfold fX12_three_173
  exact zpc_if (fun _ => zpc_bi (w_fX12_hl h) (fun σ1 v2 hσ1 => zpc_ck (zpc_bs (zKeM.wi hσ1 (by decide)) (fun σ3 hσ3 => w_fX12_three_189 hσ3)))) (fun _ => w_fX12_three_189 h)
theorem w_fX12_three_157 {σ0 : zSt} {σ : zSt} {x3 : Int32} (h : zKeM σ0 σ) : zpc (fX12_three_157 σ x3) (fun r => zKeM σ0 (r.1)) := by
  unfold fX12_three_157
  exact zpc_if (fun _ => zpc_bi (w_fX12_hl h) (fun σ4 v5 hσ4 => zpc_ck (zpc_bs (zKeM.wi hσ4 (by decide)) (fun σ6 hσ6 => w_fX12_three_173 hσ6)))) (fun _ => w_fX12_three_173 h)
theorem w_fX12_three_128_body {σ0 : zSt} {k128 : zSt → Int32 → Int32 → Option (zSt × Int32)} (hk128 : ∀ (y0 : zSt) (y1 : Int32) (y2 : Int32), zKeM σ0 y0 → zpc (k128 y0 y1 y2) (fun r => zKeM σ0 (r.1))) {σ : zSt} {x3 : Int32} {x4 : Int32} (h : zKeM σ0 σ) : zpc (fX12_three_128_body k128 σ x3 x4) (fun r => zKeM σ0 (r.1)) := by
  unfold fX12_three_128_body
  exact zpc_if (fun _ => zpc_if (fun _ => w_fX12_three_157 h) (fun _ => zpc_bu (w_fX12_change h) (fun σ7 hσ7 => zpc_bv (fun v8 _ => hk128 _ _ _ hσ7)))) (fun _ => w_fX12_three_157 h)
theorem w_fX12_three_128 {σ0 : zSt} : ∀ (n : Nat) (y0 : zSt) (y1 : Int32) (y2 : Int32), zKeM σ0 y0 → zpc (fX12_three_128 n y0 y1 y2) (fun r => zKeM σ0 (r.1)) := by
  intro n
  induction n with
  | zero => intro y0 y1 y2 h; exact zpc_none
  | succ n ih => intro y0 y1 y2 h; exact w_fX12_three_128_body ih h
theorem w_fX12_three_239 {σ0 : zSt} {σ : zSt} (h : zKeM σ0 σ) : zpc (fX12_three_239 σ) (fun r => zKeM σ0 (r.1)) := by
  unfold fX12_three_239
  exact zpc_some h
theorem w_fX12_three_502 {σ0 : zSt} {σ : zSt} (h : zKeM σ0 σ) : zpc (fX12_three_502 σ) (fun r => zKeM σ0 (r.1)) := by
  unfold fX12_three_502
  exact zpc_some h
theorem w_fX12_three_88 {σ0 : zSt} {σ : zSt} {x1 : Int32} {x2 : Int32} {x3 : Int32} (h : zKeM σ0 σ) : zpc (fX12_three_88 σ x1 x2 x3) (fun r => zKeM σ0 (r.1)) := by
  unfold fX12_three_88
  exact zpc_if (fun _ => zpc_if (fun _ => zpc_bi (w_fX12_pop h) (fun σ43 v44 hσ43 => zpc_ck (zpc_bs (zKeM.wi hσ43 (by decide)) (fun σ45 hσ45 => zpc_ck (zpc_ck (zpc_bs (zKeM.wi hσ45 (by decide)) (fun σ46 hσ46 => zpc_some hσ46))))))) (fun _ => w_fX12_three_128 _ _ _ _ h)) (fun _ => zpc_if (fun _ => zpc_bi (w_fX12_nextWord h) (fun σ37 v38 hσ37 => zpc_ck (zpc_bs (zKeM.wi hσ37 (by decide)) (fun σ39 hσ39 => zpc_bi (w_fX12_cc hσ39) (fun σ40 v41 hσ40 => zpc_if (fun _ => w_fX12_three_239 hσ40) (fun _ => zpc_ck (zpc_ck (zpc_bs (zKeM.wi hσ40 (by decide)) (fun σ42 hσ42 => w_fX12_three_239 hσ42))))))))) (fun _ => zpc_if (fun _ => zpc_bi (w_fX12_nextWord h) (fun σ9 v10 hσ9 => zpc_ck (zpc_bs (zKeM.wi hσ9 (by decide)) (fun σ11 hσ11 => zpc_ck (zpc_ck (zpc_bs (zKeM.wi hσ11 (by decide)) (fun σ12 hσ12 => zpc_some hσ12))))))) (fun _ => zpc_if (fun _ => zpc_bi (w_fX12_turns h) (fun σ13 v14 hσ13 => zpc_some hσ13)) (fun _ => zpc_if (fun _ => zpc_bi (w_fX12_next h) (fun σ15 v16 hσ15 => zpc_ck (zpc_bu (w_fX12_portTo hσ15) (fun σ17 hσ17 => zpc_ck (zpc_ck (zpc_bs (zKeM.wi hσ17 (by decide)) (fun σ18 hσ18 => zpc_some hσ18))))))) (fun _ => zpc_if (fun _ => zpc_bi (w_fX12_next h) (fun σ19 v20 hσ19 => zpc_ck (zpc_ck (zpc_bs (zKeM.wi hσ19 (by decide)) (fun σ21 hσ21 => zpc_bi (w_fX12_port hσ21) (fun σ22 v23 hσ22 => zpc_ck (zpc_bs (zKeM.wi hσ22 (by decide)) (fun σ24 hσ24 => zpc_some hσ24)))))))) (fun _ => zpc_if (fun _ => zpc_ck (zpc_bi (w_fX12_word h) (fun σ25 v26 hσ25 => zpc_ck (zpc_bi (w_fX12_hl hσ25) (fun σ27 v28 hσ27 => zpc_bu (w_fX12_wordTo hσ27) (fun σ29 hσ29 => zpc_bu (w_fX12_hlTo hσ29) (fun σ30 hσ30 => zpc_ck (zpc_bs (zKeM.wi hσ30 (by decide)) (fun σ31 hσ31 => zpc_some hσ31))))))))) (fun _ => zpc_if (fun _ => zpc_bu (w_fX12_change h) (fun σ32 hσ32 => zpc_bu (w_fX12_change hσ32) (fun σ33 hσ33 => zpc_some hσ33))) (fun _ => zpc_ck (zpc_bs (zKeM.wi h (by decide)) (fun σ34 hσ34 => zpc_ck (zpc_bs (zKeM.wi hσ34 (by decide)) (fun σ35 hσ35 => zpc_if (fun _ => zpc_ck (zpc_bs (zKeM.wi hσ35 (by decide)) (fun σ36 hσ36 => w_fX12_three_502 hσ36))) (fun _ => w_fX12_three_502 hσ35)))))))))))))
theorem w_fX12_three_85 {σ0 : zSt} {σ : zSt} (h : zKeM σ0 σ) : zpc (fX12_three_85 σ) (fun r => zKeM σ0 (r.1)) := by
  unfold fX12_three_85
  exact zpc_some h
theorem w_fX12_three {σ0 : zSt} {σ : zSt} {x1 : Int32} {x2 : Int32} (h : zKeM σ0 σ) : zpc (fX12_three σ x1 x2) (fun r => zKeM σ0 (r.1)) := by
  unfold fX12_three
  exact zpc_bv (fun v47 _ => zpc_if (fun _ => zpc_bi (w_fX12_cc h) (fun σ52 v53 hσ52 => zpc_if (fun _ => zpc_some hσ52) (fun _ => zpc_bi (w_fX12_pop hσ52) (fun σ54 v55 hσ54 => zpc_ck (zpc_bs (zKeM.wi hσ54 (by decide)) (fun σ56 hσ56 => zpc_ck (zpc_ck (zpc_bs (zKeM.wi hσ56 (by decide)) (fun σ57 hσ57 => zpc_some hσ57))))))))) (fun _ => zpc_if (fun _ => zpc_ck (zpc_if (fun _ => zpc_bi (w_fX12_pop h) (fun σ48 v49 hσ48 => zpc_if (fun _ => zpc_bu (w_fX12_pairTo hσ48) (fun σ51 hσ51 => w_fX12_three_85 hσ51)) (fun _ => zpc_bu (w_fX12_rpTo hσ48) (fun σ50 hσ50 => w_fX12_three_85 hσ50)))) (fun _ => w_fX12_three_88 h))) (fun _ => w_fX12_three_88 h)))
theorem w_fX12_does_343 {σ0 : zSt} {σ : zSt} (h : zKeM σ0 σ) : zpc (fX12_does_343 σ) (fun r => zKeM σ0 (r)) := by
  unfold fX12_does_343
  exact zpc_some h
theorem w_fX12_does_314 {σ0 : zSt} {σ : zSt} {x1 : Int32} {x2 : Int32} {x6 : Int32} {s0 : Int32} {s1 : Int32} (h : zKeM σ0 σ) : zpc (fX12_does_314 σ x1 x2 x6 s0 s1) (fun r => zKeM σ0 (r)) := by
  unfold fX12_does_314
  exact zpc_bu (w_fX12_put h) (fun σ1 hσ1 => zpc_if (fun _ => zpc_bu (w_fX12_xy hσ1) (fun σ3 hσ3 => w_fX12_does_343 hσ3)) (fun _ => zpc_ck (zpc_bs (zKeM.wi hσ1 (by decide)) (fun σ2 hσ2 => w_fX12_does_343 hσ2))))
theorem w_fX12_does_299 {σ0 : zSt} {σ : zSt} {x1 : Int32} {x2 : Int32} {x5 : Int32} {x6 : Int32} {s0 : Int32} {s1 : Int32} (h : zKeM σ0 σ) : zpc (fX12_does_299 σ x1 x2 x5 x6 s0 s1) (fun r => zKeM σ0 (r)) := by
  unfold fX12_does_299
  exact zpc_bu (w_fX12_put h) (fun σ4 hσ4 => zpc_if (fun _ => w_fX12_does_314 hσ4) (fun _ => w_fX12_does_314 hσ4))
theorem w_fX12_does_294 {σ0 : zSt} {σ : zSt} {x1 : Int32} {x2 : Int32} {x5 : Int32} {x6 : Int32} {s0 : Int32} (h : zKeM σ0 σ) : zpc (fX12_does_294 σ x1 x2 x5 x6 s0) (fun r => zKeM σ0 (r)) := by
  unfold fX12_does_294
  exact w_fX12_does_299 h
theorem w_fX12_does_266 {σ0 : zSt} {σ : zSt} {x1 : Int32} {x2 : Int32} {x5 : Int32} {x6 : Int32} {s0 : Int32} (h : zKeM σ0 σ) : zpc (fX12_does_266 σ x1 x2 x5 x6 s0) (fun r => zKeM σ0 (r)) := by
  unfold fX12_does_266
  exact zpc_bu (w_fX12_by h) (fun σ5 hσ5 => zpc_if (fun _ => w_fX12_does_294 hσ5) (fun _ => zpc_if (fun _ => w_fX12_does_299 hσ5) (fun _ => w_fX12_does_294 hσ5)))
theorem w_fX12_does_231 {σ0 : zSt} {σ : zSt} {x1 : Int32} {x2 : Int32} {x3 : Int32} {x4 : Int32} {x5 : Int32} {x6 : Int32} {s0 : Int32} {s1 : Int32} (h : zKeM σ0 σ) : zpc (fX12_does_231 σ x1 x2 x3 x4 x5 x6 s0 s1) (fun r => zKeM σ0 (r)) := by
  unfold fX12_does_231
  exact zpc_bu (w_fX12_put h) (fun σ6 hσ6 => zpc_if (fun _ => zpc_bi (w_fX12_signed hσ6) (fun σ7 v8 hσ7 => zpc_bi (w_fX12_signed hσ7) (fun σ9 v10 hσ9 => w_fX12_does_266 hσ9))) (fun _ => zpc_bi (w_fX12_signed hσ6) (fun σ11 v12 hσ11 => zpc_bi (w_fX12_signed hσ11) (fun σ13 v14 hσ13 => w_fX12_does_266 hσ13))))
theorem w_fX12_does_226 {σ0 : zSt} {σ : zSt} {x1 : Int32} {x2 : Int32} {x3 : Int32} {x4 : Int32} {x5 : Int32} {x6 : Int32} {s0 : Int32} (h : zKeM σ0 σ) : zpc (fX12_does_226 σ x1 x2 x3 x4 x5 x6 s0) (fun r => zKeM σ0 (r)) := by
  unfold fX12_does_226
  exact w_fX12_does_231 h
theorem w_fX12_does_208 {σ0 : zSt} {σ : zSt} {x1 : Int32} {x2 : Int32} {x3 : Int32} {x4 : Int32} {x5 : Int32} {x6 : Int32} {s0 : Int32} {s1 : Int32} (h : zKeM σ0 σ) : zpc (fX12_does_208 σ x1 x2 x3 x4 x5 x6 s0 s1) (fun r => zKeM σ0 (r)) := by
  unfold fX12_does_208
  exact zpc_bu (w_fX12_put h) (fun σ15 hσ15 => zpc_if (fun _ => w_fX12_does_226 hσ15) (fun _ => zpc_if (fun _ => w_fX12_does_231 hσ15) (fun _ => w_fX12_does_226 hσ15)))
theorem w_fX12_does_154 {σ0 : zSt} {σ : zSt} {x1 : Int32} {x2 : Int32} {x3 : Int32} {x4 : Int32} {x5 : Int32} {s0 : Int32} (h : zKeM σ0 σ) : zpc (fX12_does_154 σ x1 x2 x3 x4 x5 s0) (fun r => zKeM σ0 (r)) := by
  unfold fX12_does_154
  exact zpc_if (fun _ => zpc_if (fun _ => w_fX12_does_208 h) (fun _ => w_fX12_does_208 h)) (fun _ => zpc_if (fun _ => w_fX12_does_208 h) (fun _ => w_fX12_does_208 h))
theorem w_fX12_does_132 {σ0 : zSt} {σ : zSt} {x1 : Int32} {x2 : Int32} {x3 : Int32} {x4 : Int32} {s0 : Int32} (h : zKeM σ0 σ) : zpc (fX12_does_132 σ x1 x2 x3 x4 s0) (fun r => zKeM σ0 (r)) := by
  unfold fX12_does_132
  exact zpc_if (fun _ => w_fX12_does_154 h) (fun _ => w_fX12_does_154 h)
theorem w_fX12_does_120 {σ0 : zSt} {σ : zSt} {x1 : Int32} {x2 : Int32} {x3 : Int32} {s0 : Int32} (h : zKeM σ0 σ) : zpc (fX12_does_120 σ x1 x2 x3 s0) (fun r => zKeM σ0 (r)) := by
  unfold fX12_does_120
  exact zpc_if (fun _ => w_fX12_does_132 h) (fun _ => w_fX12_does_132 h)
theorem w_fX12_does_111 {σ0 : zSt} {σ : zSt} {x1 : Int32} {x2 : Int32} {x3 : Int32} (h : zKeM σ0 σ) : zpc (fX12_does_111 σ x1 x2 x3) (fun r => zKeM σ0 (r)) := by
  unfold fX12_does_111
  exact zpc_bi (w_fX12_flag h) (fun σ16 v17 hσ16 => w_fX12_does_120 hσ16)
theorem w_fX12_does_101 {σ0 : zSt} {σ : zSt} {x1 : Int32} {x2 : Int32} {x3 : Int32} (h : zKeM σ0 σ) : zpc (fX12_does_101 σ x1 x2 x3) (fun r => zKeM σ0 (r)) := by
  unfold fX12_does_101
  exact zpc_if (fun _ => w_fX12_does_111 h) (fun _ => zpc_if (fun _ => w_fX12_does_111 h) (fun _ => w_fX12_does_120 h))
theorem w_fX12_does_71 {σ0 : zSt} {σ : zSt} {s0 : Int32} {s1 : Int32} (h : zKeM σ0 σ) : zpc (fX12_does_71 σ s0 s1) (fun r => zKeM σ0 (r)) := by
  unfold fX12_does_71
  exact zpc_bu (w_fX12_put h) (fun σ18 hσ18 => zpc_ck (zpc_bi (w_fX12_isEven hσ18) (fun σ19 v20 hσ19 => zpc_bu (w_fX12_put hσ19) (fun σ21 hσ21 => zpc_bu (w_fX12_put hσ21) (fun σ22 hσ22 => zpc_bu (w_fX12_put hσ22) (fun σ23 hσ23 => zpc_some hσ23))))))
theorem w_fX12_does_48 {σ0 : zSt} {σ : zSt} {x1 : Int32} {s0 : Int32} {s1 : Int32} (h : zKeM σ0 σ) : zpc (fX12_does_48 σ x1 s0 s1) (fun r => zKeM σ0 (r)) := by
  unfold fX12_does_48
  exact zpc_ck (zpc_bs (zKeM.wi h (by decide)) (fun σ24 hσ24 => zpc_ck (zpc_bu (w_fX12_by hσ24) (fun σ25 hσ25 => zpc_if (fun _ => w_fX12_does_71 hσ25) (fun _ => w_fX12_does_71 hσ25)))))
theorem w_fX12_does {σ0 : zSt} {σ : zSt} {x1 : Int32} {x2 : Int32} (h : zKeM σ0 σ) : zpc (fX12_does σ x1 x2) (fun r => zKeM σ0 (r)) := by
  unfold fX12_does
  exact zpc_ck (zpc_bv (fun v26 _ => zpc_if (fun _ => w_fX12_does_101 h) (fun _ => zpc_if (fun _ => w_fX12_does_101 h) (fun _ => zpc_if (fun _ => w_fX12_does_48 h) (fun _ => zpc_if (fun _ => w_fX12_does_48 h) (fun _ => w_fX12_does_48 h))))))
theorem w_fX12_blocks_595 {σ0 : zSt} {σ : zSt} (h : zKeM σ0 σ) : zpc (fX12_blocks_595 σ) (fun r => zKeM σ0 (r.1)) := by
  unfold fX12_blocks_595
  exact zpc_some h
theorem w_fX12_blocks_641 {σ0 : zSt} {σ : zSt} (h : zKeM σ0 σ) : zpc (fX12_blocks_641 σ) (fun r => zKeM σ0 (r.1)) := by
  unfold fX12_blocks_641
  exact zpc_some h
theorem w_fX12_blocks_584 {σ0 : zSt} {σ : zSt} {x1 : Int32} {x2 : Int32} {x5 : Int32} (h : zKeM σ0 σ) : zpc (fX12_blocks_584 σ x1 x2 x5) (fun r => zKeM σ0 (r.1)) := by
  unfold fX12_blocks_584
  exact zpc_if (fun _ => w_fX12_blocks_595 h) (fun _ => zpc_if (fun _ => w_fX12_blocks_595 h) (fun _ => zpc_ck (zpc_ck (zpc_bs (zKeM.wi h (by decide)) (fun σ1 hσ1 => zpc_if (fun _ => w_fX12_blocks_641 hσ1) (fun _ => zpc_ck (zpc_ck (zpc_bs (zKeM.wi hσ1 (by decide)) (fun σ2 hσ2 => w_fX12_blocks_641 hσ2)))))))))
theorem w_fX12_blocks_297 {σ0 : zSt} {σ : zSt} {x1 : Int32} {x2 : Int32} {s0 : Int32} (h : zKeM σ0 σ) : zpc (fX12_blocks_297 σ x1 x2 s0) (fun r => zKeM σ0 (r.1)) := by
  unfold fX12_blocks_297
  exact w_fX12_blocks_584 h
theorem w_fX12_blocks_296 {σ0 : zSt} {σ : zSt} {x1 : Int32} {x2 : Int32} (h : zKeM σ0 σ) : zpc (fX12_blocks_296 σ x1 x2) (fun r => zKeM σ0 (r.1)) := by
  unfold fX12_blocks_296
  exact w_fX12_blocks_297 h
theorem w_fX12_blocks_292 {σ0 : zSt} {σ : zSt} {x1 : Int32} {x2 : Int32} (h : zKeM σ0 σ) : zpc (fX12_blocks_292 σ x1 x2) (fun r => zKeM σ0 (r.1)) := by
  unfold fX12_blocks_292
  exact w_fX12_blocks_297 h
theorem w_fX12_blocks_267 {σ0 : zSt} {σ : zSt} {x1 : Int32} {x2 : Int32} {s0 : Int32} {s1 : Int32} (h : zKeM σ0 σ) : zpc (fX12_blocks_267 σ x1 x2 s0 s1) (fun r => zKeM σ0 (r.1)) := by
  unfold fX12_blocks_267
  exact zpc_bu (w_fX12_put h) (fun σ3 hσ3 => zpc_bi (w_fX12_flag hσ3) (fun σ4 v5 hσ4 => zpc_if (fun _ => zpc_if (fun _ => w_fX12_blocks_292 hσ4) (fun _ => zpc_bi (w_fX12_flag hσ4) (fun σ6 v7 hσ6 => zpc_if (fun _ => w_fX12_blocks_292 hσ6) (fun _ => w_fX12_blocks_296 hσ6)))) (fun _ => w_fX12_blocks_296 hσ4)))
theorem w_fX12_blocks_249 {σ0 : zSt} {σ : zSt} {x1 : Int32} {x2 : Int32} {s0 : Int32} {s1 : Int32} (h : zKeM σ0 σ) : zpc (fX12_blocks_249 σ x1 x2 s0 s1) (fun r => zKeM σ0 (r.1)) := by
  unfold fX12_blocks_249
  exact zpc_bu (w_fX12_put h) (fun σ8 hσ8 => zpc_bi (w_fX12_pair hσ8) (fun σ9 v10 hσ9 => zpc_if (fun _ => w_fX12_blocks_267 hσ9) (fun _ => w_fX12_blocks_267 hσ9)))
theorem w_fX12_blocks_234 {σ0 : zSt} {σ : zSt} {x1 : Int32} {x2 : Int32} {s0 : Int32} {s1 : Int32} (h : zKeM σ0 σ) : zpc (fX12_blocks_234 σ x1 x2 s0 s1) (fun r => zKeM σ0 (r.1)) := by
  unfold fX12_blocks_234
  exact zpc_bu (w_fX12_put h) (fun σ11 hσ11 => zpc_if (fun _ => w_fX12_blocks_249 hσ11) (fun _ => w_fX12_blocks_249 hσ11))
theorem w_fX12_blocks_216 {σ0 : zSt} {σ : zSt} {x1 : Int32} {x2 : Int32} {x6 : Int32} {s0 : Int32} {s1 : Int32} (h : zKeM σ0 σ) : zpc (fX12_blocks_216 σ x1 x2 x6 s0 s1) (fun r => zKeM σ0 (r.1)) := by
  unfold fX12_blocks_216
  exact zpc_bu (w_fX12_put h) (fun σ12 hσ12 => zpc_if (fun _ => w_fX12_blocks_234 hσ12) (fun _ => w_fX12_blocks_234 hσ12))
theorem w_fX12_blocks_202 {σ0 : zSt} {σ : zSt} {x1 : Int32} {x2 : Int32} {x6 : Int32} (h : zKeM σ0 σ) : zpc (fX12_blocks_202 σ x1 x2 x6) (fun r => zKeM σ0 (r.1)) := by
  unfold fX12_blocks_202
  exact zpc_if (fun _ => w_fX12_blocks_216 h) (fun _ => w_fX12_blocks_216 h)
theorem w_fX12_blocks_190 {σ0 : zSt} {σ : zSt} {x1 : Int32} {x2 : Int32} {s0 : Int32} {s1 : Int32} (h : zKeM σ0 σ) : zpc (fX12_blocks_190 σ x1 x2 s0 s1) (fun r => zKeM σ0 (r.1)) := by
  unfold fX12_blocks_190
  exact zpc_bv (fun v13 _ => w_fX12_blocks_202 h)
theorem w_fX12_blocks_159 {σ0 : zSt} {σ : zSt} {x1 : Int32} {x2 : Int32} {x6 : Int32} {s0 : Int32} (h : zKeM σ0 σ) : zpc (fX12_blocks_159 σ x1 x2 x6 s0) (fun r => zKeM σ0 (r.1)) := by
  unfold fX12_blocks_159
  exact zpc_bu (w_fX12_by h) (fun σ14 hσ14 => zpc_bu (w_fX12_put hσ14) (fun σ15 hσ15 => zpc_if (fun _ => w_fX12_blocks_190 hσ15) (fun _ => w_fX12_blocks_190 hσ15)))
theorem w_fX12_blocks_111 {σ0 : zSt} {σ : zSt} {x1 : Int32} {x2 : Int32} {x3 : Int32} {x4 : Int32} {s0 : Int32} (h : zKeM σ0 σ) : zpc (fX12_blocks_111 σ x1 x2 x3 x4 s0) (fun r => zKeM σ0 (r.1)) := by
  unfold fX12_blocks_111
  exact zpc_if (fun _ => zpc_ck (zpc_ck (zpc_bs (zKeM.wi h (by decide)) (fun σ17 hσ17 => zpc_ck (zpc_if (fun _ => w_fX12_blocks_159 hσ17) (fun _ => w_fX12_blocks_159 hσ17)))))) (fun _ => zpc_bu (w_fX12_put h) (fun σ16 hσ16 => w_fX12_blocks_202 hσ16))
theorem w_fX12_blocks_74 {σ0 : zSt} {σ : zSt} {x1 : Int32} {x2 : Int32} {x3 : Int32} {x4 : Int32} (h : zKeM σ0 σ) : zpc (fX12_blocks_74 σ x1 x2 x3 x4) (fun r => zKeM σ0 (r.1)) := by
  unfold fX12_blocks_74
  exact zpc_bi (w_fX12_pair h) (fun σ18 v19 hσ18 => zpc_bu (w_fX12_pairTo hσ18) (fun σ20 hσ20 => zpc_if (fun _ => zpc_ck (w_fX12_blocks_111 hσ20)) (fun _ => zpc_ck (w_fX12_blocks_111 hσ20))))
theorem w_fX12_blocks_44 {σ0 : zSt} {σ : zSt} {x1 : Int32} {x2 : Int32} {x3 : Int32} {x4 : Int32} (h : zKeM σ0 σ) : zpc (fX12_blocks_44 σ x1 x2 x3 x4) (fun r => zKeM σ0 (r.1)) := by
  unfold fX12_blocks_44
  exact zpc_bi (w_fX12_pair h) (fun σ21 v22 hσ21 => zpc_bu (w_fX12_pairTo hσ21) (fun σ23 hσ23 => zpc_if (fun _ => zpc_bi (w_fX12_pair hσ23) (fun σ24 v25 hσ24 => zpc_bu (w_fX12_pairTo hσ24) (fun σ26 hσ26 => w_fX12_blocks_74 hσ26))) (fun _ => w_fX12_blocks_74 hσ23)))
theorem w_fX12_blocks_582 {σ0 : zSt} {σ : zSt} {x1 : Int32} {x2 : Int32} {s0 : Int32} (h : zKeM σ0 σ) : zpc (fX12_blocks_582 σ x1 x2 s0) (fun r => zKeM σ0 (r.1)) := by
  unfold fX12_blocks_582
  exact w_fX12_blocks_584 h
theorem w_fX12_blocks_545 {σ0 : zSt} {σ : zSt} {x1 : Int32} {x2 : Int32} {x6 : Int32} {s0 : Int32} {s1 : Int32} (h : zKeM σ0 σ) : zpc (fX12_blocks_545 σ x1 x2 x6 s0 s1) (fun r => zKeM σ0 (r.1)) := by
  unfold fX12_blocks_545
  exact zpc_bu (w_fX12_put h) (fun σ27 hσ27 => zpc_ck (zpc_bi (w_fX12_isEven hσ27) (fun σ28 v29 hσ28 => zpc_bu (w_fX12_put hσ28) (fun σ30 hσ30 => zpc_ck (zpc_if (fun _ => w_fX12_blocks_582 hσ30) (fun _ => w_fX12_blocks_582 hσ30))))))
theorem w_fX12_blocks_527 {σ0 : zSt} {σ : zSt} {x1 : Int32} {x2 : Int32} {x6 : Int32} {s0 : Int32} {s1 : Int32} (h : zKeM σ0 σ) : zpc (fX12_blocks_527 σ x1 x2 x6 s0 s1) (fun r => zKeM σ0 (r.1)) := by
  unfold fX12_blocks_527
  exact zpc_bu (w_fX12_put h) (fun σ31 hσ31 => zpc_if (fun _ => w_fX12_blocks_545 hσ31) (fun _ => w_fX12_blocks_545 hσ31))
theorem w_fX12_blocks_509 {σ0 : zSt} {σ : zSt} {x1 : Int32} {x2 : Int32} {x6 : Int32} {s0 : Int32} {s1 : Int32} (h : zKeM σ0 σ) : zpc (fX12_blocks_509 σ x1 x2 x6 s0 s1) (fun r => zKeM σ0 (r.1)) := by
  unfold fX12_blocks_509
  exact zpc_bu (w_fX12_put h) (fun σ32 hσ32 => zpc_if (fun _ => w_fX12_blocks_527 hσ32) (fun _ => w_fX12_blocks_527 hσ32))
theorem w_fX12_blocks_485 {σ0 : zSt} {σ : zSt} {x1 : Int32} {x2 : Int32} {x4 : Int32} {x6 : Int32} (h : zKeM σ0 σ) : zpc (fX12_blocks_485 σ x1 x2 x4 x6) (fun r => zKeM σ0 (r.1)) := by
  unfold fX12_blocks_485
  exact zpc_ck (zpc_bu (w_fX12_by h) (fun σ33 hσ33 => zpc_if (fun _ => w_fX12_blocks_509 hσ33) (fun _ => w_fX12_blocks_509 hσ33)))
theorem w_fX12_blocks_11 {σ0 : zSt} {σ : zSt} {x1 : Int32} {x2 : Int32} {s0 : Int32} (h : zKeM σ0 σ) : zpc (fX12_blocks_11 σ x1 x2 s0) (fun r => zKeM σ0 (r.1)) := by
  unfold fX12_blocks_11
  exact zpc_if (fun _ => zpc_if (fun _ => zpc_bi (w_fX12_pair h) (fun σ47 v48 hσ47 => zpc_ck (zpc_bs (zKeM.wi hσ47 (by decide)) (fun σ49 hσ49 => zpc_ck (zpc_bi (w_fX12_port hσ49) (fun σ50 v51 hσ50 => zpc_ck (zpc_ck (zpc_bs (zKeM.wi hσ50 (by decide)) (fun σ52 hσ52 => zpc_bi (w_fX12_pair hσ52) (fun σ53 v54 hσ53 => zpc_bu (w_fX12_write hσ53) (fun σ55 hσ55 => zpc_bi (w_fX12_pair hσ55) (fun σ56 v57 hσ56 => zpc_bu (w_fX12_pairTo hσ56) (fun σ58 hσ58 => zpc_ck (zpc_bv (fun v59 _ => w_fX12_blocks_485 hσ58))))))))))))))) (fun _ => zpc_bi (w_fX12_pair h) (fun σ34 v35 hσ34 => zpc_bi (w_fX12_read hσ34) (fun σ36 v37 hσ36 => zpc_ck (zpc_ck (zpc_bs (zKeM.wi hσ36 (by decide)) (fun σ38 hσ38 => zpc_ck (zpc_bu (w_fX12_portTo hσ38) (fun σ39 hσ39 => zpc_bi (w_fX12_pair hσ39) (fun σ40 v41 hσ40 => zpc_bu (w_fX12_pairTo hσ40) (fun σ42 hσ42 => zpc_bi (w_fX12_pair hσ42) (fun σ43 v44 hσ43 => zpc_ck (zpc_bs (zKeM.wi hσ43 (by decide)) (fun σ45 hσ45 => zpc_ck (zpc_bv (fun v46 _ => w_fX12_blocks_485 hσ45)))))))))))))))) (fun _ => zpc_bi (w_fX12_pair h) (fun σ60 v61 hσ60 => zpc_bi (w_fX12_read hσ60) (fun σ62 v63 hσ62 => zpc_if (fun _ => zpc_bi (w_fX12_pair hσ62) (fun σ64 v65 hσ64 => zpc_bu (w_fX12_write hσ64) (fun σ66 hσ66 => w_fX12_blocks_44 hσ66))) (fun _ => w_fX12_blocks_44 hσ62))))
theorem w_fX12_blocks {σ0 : zSt} {σ : zSt} {x1 : Int32} {x2 : Int32} (h : zKeM σ0 σ) : zpc (fX12_blocks σ x1 x2) (fun r => zKeM σ0 (r.1)) := by
  unfold fX12_blocks
  exact zpc_ck (zpc_if (fun _ => w_fX12_blocks_11 h) (fun _ => w_fX12_blocks_11 h))
theorem w_fX12_specials_28 {σ0 : zSt} {σ : zSt} {s0 : Int32} (h : zKeM σ0 σ) : zpc (fX12_specials_28 σ s0) (fun r => zKeM σ0 (r.1)) := by
  unfold fX12_specials_28
  exact zpc_ck (zpc_ck (zpc_bs (zKeM.wi h (by decide)) (fun σ1 hσ1 => zpc_some hσ1)))
theorem w_fX12_specials_244 {σ0 : zSt} {σ : zSt} {s0 : Int32} (h : zKeM σ0 σ) : zpc (fX12_specials_244 σ s0) (fun r => zKeM σ0 (r.1)) := by
  unfold fX12_specials_244
  exact zpc_some h
theorem w_fX12_specials_220 {σ0 : zSt} {σ : zSt} {x1 : Int32} (h : zKeM σ0 σ) : zpc (fX12_specials_220 σ x1) (fun r => zKeM σ0 (r.1)) := by
  unfold fX12_specials_220
  exact zpc_bu (w_fX12_put h) (fun σ2 hσ2 => zpc_bu (w_fX12_put hσ2) (fun σ3 hσ3 => zpc_if (fun _ => w_fX12_specials_244 hσ3) (fun _ => w_fX12_specials_244 hσ3)))
theorem w_fX12_specials_94 {σ0 : zSt} {σ : zSt} {x1 : Int32} {s0 : Int32} {s1 : Int32} (h : zKeM σ0 σ) : zpc (fX12_specials_94 σ x1 s0 s1) (fun r => zKeM σ0 (r.1)) := by
  unfold fX12_specials_94
  exact zpc_bu (w_fX12_put h) (fun σ4 hσ4 => w_fX12_specials_220 hσ4)
theorem w_fX12_specials_64 {σ0 : zSt} {σ : zSt} {x1 : Int32} {s0 : Int32} {s2 : Int32} (h : zKeM σ0 σ) : zpc (fX12_specials_64 σ x1 s0 s2) (fun r => zKeM σ0 (r.1)) := by
  unfold fX12_specials_64
  exact zpc_ck (zpc_ck (zpc_bs (zKeM.wi h (by decide)) (fun σ5 hσ5 => zpc_ck (zpc_bu (w_fX12_by hσ5) (fun σ6 hσ6 => zpc_ck (zpc_if (fun _ => w_fX12_specials_94 hσ6) (fun _ => w_fX12_specials_94 hσ6)))))))
theorem w_fX12_specials_194 {σ0 : zSt} {σ : zSt} {x1 : Int32} {s0 : Int32} {s1 : Int32} {s2 : Int32} (h : zKeM σ0 σ) : zpc (fX12_specials_194 σ x1 s0 s1 s2) (fun r => zKeM σ0 (r.1)) := by
  unfold fX12_specials_194
  exact zpc_ck (zpc_bs (zKeM.wi h (by decide)) (fun σ7 hσ7 => zpc_ck (zpc_bu (w_fX12_by hσ7) (fun σ8 hσ8 => zpc_ck (zpc_bi (w_fX12_isEven hσ8) (fun σ9 v10 hσ9 => zpc_bu (w_fX12_put hσ9) (fun σ11 hσ11 => w_fX12_specials_220 hσ11)))))))
theorem w_fX12_specials_161 {σ0 : zSt} {σ : zSt} {x1 : Int32} {x3 : Int32} {s0 : Int32} {s1 : Int32} (h : zKeM σ0 σ) : zpc (fX12_specials_161 σ x1 x3 s0 s1) (fun r => zKeM σ0 (r.1)) := by
  unfold fX12_specials_161
  exact zpc_bu (w_fX12_write h) (fun σ12 hσ12 => zpc_ck (zpc_if (fun _ => w_fX12_specials_194 hσ12) (fun _ => w_fX12_specials_194 hσ12)))
theorem w_fX12_specials {σ0 : zSt} {σ : zSt} {x1 : Int32} (h : zKeM σ0 σ) : zpc (fX12_specials σ x1) (fun r => zKeM σ0 (r.1)) := by
  unfold fX12_specials
  exact zpc_if (fun _ => zpc_if (fun _ => zpc_if (fun _ => zpc_bi (w_fX12_pair h) (fun σ13 v14 hσ13 => zpc_ck (zpc_bs (zKeM.wi hσ13 (by decide)) (fun σ15 hσ15 => zpc_bi (w_fX12_read hσ15) (fun σ16 v17 hσ16 => zpc_ck (zpc_bv (fun v18 _ => zpc_if (fun _ => w_fX12_specials_161 hσ16) (fun _ => w_fX12_specials_161 hσ16)))))))) (fun _ => zpc_if (fun _ => w_fX12_specials_64 h) (fun _ => w_fX12_specials_64 h))) (fun _ => zpc_if (fun _ => w_fX12_specials_28 h) (fun _ => w_fX12_specials_28 h))) (fun _ => zpc_some h)
theorem w_fX12_words_255 {σ0 : zSt} {σ : zSt} {s0 : Int32} {s1 : Int32} (h : zKeM σ0 σ) : zpc (fX12_words_255 σ s0 s1) (fun r => zKeM σ0 (r)) := by
  unfold fX12_words_255
  exact zpc_bu (w_fX12_put h) (fun σ1 hσ1 => zpc_some hσ1)
theorem w_fX12_words_241 {σ0 : zSt} {σ : zSt} {x2 : Int32} {s0 : Int32} {s1 : Int32} (h : zKeM σ0 σ) : zpc (fX12_words_241 σ x2 s0 s1) (fun r => zKeM σ0 (r)) := by
  unfold fX12_words_241
  exact zpc_bu (w_fX12_put h) (fun σ2 hσ2 => zpc_if (fun _ => w_fX12_words_255 hσ2) (fun _ => w_fX12_words_255 hσ2))
theorem w_fX12_words_236 {σ0 : zSt} {σ : zSt} {x2 : Int32} {s0 : Int32} (h : zKeM σ0 σ) : zpc (fX12_words_236 σ x2 s0) (fun r => zKeM σ0 (r)) := by
  unfold fX12_words_236
  exact w_fX12_words_241 h
theorem w_fX12_words_215 {σ0 : zSt} {σ : zSt} {x2 : Int32} {x7 : Int32} {s0 : Int32} {s1 : Int32} (h : zKeM σ0 σ) : zpc (fX12_words_215 σ x2 x7 s0 s1) (fun r => zKeM σ0 (r)) := by
  unfold fX12_words_215
  exact zpc_bu (w_fX12_put h) (fun σ3 hσ3 => zpc_if (fun _ => w_fX12_words_236 hσ3) (fun _ => zpc_if (fun _ => w_fX12_words_241 hσ3) (fun _ => w_fX12_words_236 hσ3)))
theorem w_fX12_words_210 {σ0 : zSt} {σ : zSt} {x2 : Int32} {x7 : Int32} {s0 : Int32} (h : zKeM σ0 σ) : zpc (fX12_words_210 σ x2 x7 s0) (fun r => zKeM σ0 (r)) := by
  unfold fX12_words_210
  exact w_fX12_words_215 h
theorem w_fX12_words_193 {σ0 : zSt} {σ : zSt} {x2 : Int32} {x6 : Int32} {x7 : Int32} {s0 : Int32} {s1 : Int32} (h : zKeM σ0 σ) : zpc (fX12_words_193 σ x2 x6 x7 s0 s1) (fun r => zKeM σ0 (r)) := by
  unfold fX12_words_193
  exact zpc_bu (w_fX12_put h) (fun σ4 hσ4 => zpc_if (fun _ => w_fX12_words_210 hσ4) (fun _ => zpc_if (fun _ => w_fX12_words_215 hσ4) (fun _ => w_fX12_words_210 hσ4)))
theorem w_fX12_words_123 {σ0 : zSt} {σ : zSt} {x2 : Int32} {x3 : Int32} {x4 : Int32} {x5 : Int32} {x6 : Int32} {x7 : Int32} {s0 : Int32} {s1 : Int32} (h : zKeM σ0 σ) : zpc (fX12_words_123 σ x2 x3 x4 x5 x6 x7 s0 s1) (fun r => zKeM σ0 (r)) := by
  unfold fX12_words_123
  exact zpc_bu (w_fX12_put h) (fun σ5 hσ5 => zpc_bu (w_fX12_xy hσ5) (fun σ6 hσ6 => zpc_if (fun _ => zpc_if (fun _ => w_fX12_words_193 hσ6) (fun _ => w_fX12_words_193 hσ6)) (fun _ => zpc_if (fun _ => w_fX12_words_193 hσ6) (fun _ => w_fX12_words_193 hσ6))))
theorem w_fX12_words_104 {σ0 : zSt} {σ : zSt} {x2 : Int32} {x3 : Int32} {x4 : Int32} {x5 : Int32} {x6 : Int32} {x7 : Int32} {s0 : Int32} {s1 : Int32} (h : zKeM σ0 σ) : zpc (fX12_words_104 σ x2 x3 x4 x5 x6 x7 s0 s1) (fun r => zKeM σ0 (r)) := by
  unfold fX12_words_104
  exact zpc_bu (w_fX12_put h) (fun σ7 hσ7 => zpc_if (fun _ => w_fX12_words_123 hσ7) (fun _ => w_fX12_words_123 hσ7))
theorem w_fX12_words_80 {σ0 : zSt} {σ : zSt} {x2 : Int32} {x3 : Int32} {x4 : Int32} {x5 : Int32} {x6 : Int32} {s0 : Int32} (h : zKeM σ0 σ) : zpc (fX12_words_80 σ x2 x3 x4 x5 x6 s0) (fun r => zKeM σ0 (r)) := by
  unfold fX12_words_80
  exact zpc_bu (w_fX12_hlTo h) (fun σ8 hσ8 => zpc_if (fun _ => w_fX12_words_104 hσ8) (fun _ => w_fX12_words_104 hσ8))
theorem w_fX12_words_53 {σ0 : zSt} {σ : zSt} {x2 : Int32} {x3 : Int32} {x4 : Int32} {x5 : Int32} {s0 : Int32} (h : zKeM σ0 σ) : zpc (fX12_words_53 σ x2 x3 x4 x5 s0) (fun r => zKeM σ0 (r)) := by
  unfold fX12_words_53
  exact zpc_if (fun _ => w_fX12_words_80 h) (fun _ => w_fX12_words_80 h)
theorem w_fX12_words {σ0 : zSt} {σ : zSt} {x1 : Int32} {x2 : Int32} (h : zKeM σ0 σ) : zpc (fX12_words σ x1 x2) (fun r => zKeM σ0 (r)) := by
  unfold fX12_words
  exact zpc_bi (w_fX12_hl h) (fun σ9 v10 hσ9 => zpc_bi (w_fX12_rp hσ9) (fun σ11 v12 hσ11 => zpc_bi (w_fX12_flag hσ11) (fun σ13 v14 hσ13 => zpc_ck (zpc_bs (zKeM.wi hσ13 (by decide)) (fun σ15 hσ15 => zpc_if (fun _ => w_fX12_words_53 hσ15) (fun _ => w_fX12_words_53 hσ15))))))
theorem w_fX12_more_387 {σ0 : zSt} {σ : zSt} {s0 : Int32} {s1 : Int32} (h : zKeM σ0 σ) : zpc (fX12_more_387 σ s0 s1) (fun r => zKeM σ0 (r.1)) := by
  unfold fX12_more_387
  exact zpc_ck (zpc_bs (zKeM.wi h (by decide)) (fun σ1 hσ1 => zpc_some hσ1))
theorem w_fX12_more_281 {σ0 : zSt} {σ : zSt} {x7 : Int32} (h : zKeM σ0 σ) : zpc (fX12_more_281 σ x7) (fun r => zKeM σ0 (r.1)) := by
  unfold fX12_more_281
  exact zpc_ck (zpc_bs (zKeM.wi h (by decide)) (fun σ2 hσ2 => zpc_some hσ2))
theorem w_fX12_more_234 {σ0 : zSt} {σ : zSt} {s0 : Int32} {s1 : Int32} (h : zKeM σ0 σ) : zpc (fX12_more_234 σ s0 s1) (fun r => zKeM σ0 (r.1)) := by
  unfold fX12_more_234
  exact zpc_bu (w_fX12_words h) (fun σ3 hσ3 => zpc_some hσ3)
theorem w_fX12_more_195 {σ0 : zSt} {σ : zSt} {s0 : Int32} {s1 : Int32} (h : zKeM σ0 σ) : zpc (fX12_more_195 σ s0 s1) (fun r => zKeM σ0 (r.1)) := by
  unfold fX12_more_195
  exact zpc_bu (w_fX12_portTo h) (fun σ4 hσ4 => zpc_bi (w_fX12_pair hσ4) (fun σ5 v6 hσ5 => zpc_ck (zpc_bs (zKeM.wi hσ5 (by decide)) (fun σ7 hσ7 => zpc_some hσ7))))
theorem w_fX12_more_133 {σ0 : zSt} {σ : zSt} {x5 : Int32} {x6 : Int32} (h : zKeM σ0 σ) : zpc (fX12_more_133 σ x5 x6) (fun r => zKeM σ0 (r.1)) := by
  unfold fX12_more_133
  exact zpc_bu (w_fX12_by h) (fun σ8 hσ8 => zpc_bi (w_fX12_isEven hσ8) (fun σ9 v10 hσ9 => zpc_bu (w_fX12_put hσ9) (fun σ11 hσ11 => zpc_bu (w_fX12_put hσ11) (fun σ12 hσ12 => zpc_bu (w_fX12_put hσ12) (fun σ13 hσ13 => zpc_ck (zpc_bs (zKeM.wi hσ13 (by decide)) (fun σ14 hσ14 => zpc_some hσ14)))))))
theorem w_fX12_more_42 {σ0 : zSt} {σ : zSt} {x2 : Int32} {x3 : Int32} {x4 : Int32} (h : zKeM σ0 σ) : zpc (fX12_more_42 σ x2 x3 x4) (fun r => zKeM σ0 (r.1)) := by
  unfold fX12_more_42
  exact zpc_if (fun _ => zpc_if (fun _ => zpc_bi (w_fX12_pair h) (fun σ15 v16 hσ15 => zpc_bv (fun v17 _ => zpc_ck (zpc_bi (w_fX12_port hσ15) (fun σ18 v19 hσ18 => zpc_if (fun _ => w_fX12_more_133 hσ18) (fun _ => zpc_bu (w_fX12_rTo hσ18) (fun σ20 hσ20 => w_fX12_more_133 hσ20))))))) (fun _ => zpc_if (fun _ => zpc_ck (zpc_if (fun _ => w_fX12_more_195 h) (fun _ => zpc_bi (w_fX12_r h) (fun σ21 v22 hσ21 => w_fX12_more_195 hσ21)))) (fun _ => zpc_if (fun _ => zpc_ck (zpc_if (fun _ => w_fX12_more_234 h) (fun _ => w_fX12_more_234 h))) (fun _ => zpc_if (fun _ => zpc_bi (w_fX12_nextWord h) (fun σ23 v24 hσ23 => zpc_ck (zpc_if (fun _ => zpc_bi (w_fX12_rp hσ23) (fun σ28 v29 hσ28 => zpc_bu (w_fX12_wordTo hσ28) (fun σ30 hσ30 => w_fX12_more_281 hσ30))) (fun _ => zpc_bi (w_fX12_word hσ23) (fun σ25 v26 hσ25 => zpc_bu (w_fX12_rpTo hσ25) (fun σ27 hσ27 => w_fX12_more_281 hσ27)))))) (fun _ => zpc_if (fun _ => zpc_ck (zpc_bv (fun v31 _ => zpc_ck (zpc_bs (zKeM.wi h (by decide)) (fun σ32 hσ32 => zpc_bu (w_fX12_does hσ32) (fun σ33 hσ33 => zpc_some hσ33)))))) (fun _ => zpc_if (fun _ => zpc_bi (w_fX12_pop h) (fun σ34 v35 hσ34 => zpc_ck (zpc_bs (zKeM.wi hσ34 (by decide)) (fun σ36 hσ36 => zpc_ck (zpc_ck (zpc_bs (zKeM.wi hσ36 (by decide)) (fun σ37 hσ37 => zpc_ck (zpc_ck (zpc_bs (zKeM.wi hσ37 (by decide)) (fun σ38 hσ38 => zpc_some hσ38)))))))))) (fun _ => zpc_if (fun _ => zpc_ck (zpc_if (fun _ => zpc_ck (w_fX12_more_387 h)) (fun _ => w_fX12_more_387 h))) (fun _ => zpc_bi (w_fX12_specials h) (fun σ39 v40 hσ39 => zpc_some hσ39))))))))) (fun _ => zpc_some h)
theorem w_fX12_more {σ0 : zSt} {σ : zSt} {x1 : Int32} (h : zKeM σ0 σ) : zpc (fX12_more σ x1) (fun r => zKeM σ0 (r.1)) := by
  unfold fX12_more
  exact zpc_bv (fun v41 _ => zpc_bv (fun v42 _ => zpc_bv (fun v43 _ => zpc_if (fun _ => zpc_if (fun _ => w_fX12_more_42 h) (fun _ => zpc_if (fun _ => w_fX12_more_42 h) (fun _ => zpc_bi (w_fX12_blocks h) (fun σ44 v45 hσ44 => zpc_some hσ44)))) (fun _ => w_fX12_more_42 h))))
theorem w_fX12_prefixed_r1_33 {σ0 : zSt} {σ : zSt} (h : zKeM σ0 σ) : zpc (fX12_prefixed_r1_33 σ) (fun r => zKeM σ0 (r.1)) := by
  unfold fX12_prefixed_r1_33
  exact zpc_ck (zpc_bs (zKeM.wi h (by decide)) (fun σ1 hσ1 => zpc_some hσ1))
theorem w_fX12_prefixed_r1_154 {σ0 : zSt} {σ : zSt} {s0 : Int32} (h : zKeM σ0 σ) : zpc (fX12_prefixed_r1_154 σ s0) (fun r => zKeM σ0 (r.1)) := by
  unfold fX12_prefixed_r1_154
  exact zpc_some h
theorem w_fX12_prefixed_r1_135 {σ0 : zSt} {σ : zSt} {x4 : Int32} {x5 : Int32} (h : zKeM σ0 σ) : zpc (fX12_prefixed_r1_135 σ x4 x5) (fun r => zKeM σ0 (r.1)) := by
  unfold fX12_prefixed_r1_135
  exact zpc_if (fun _ => w_fX12_prefixed_r1_154 h) (fun _ => w_fX12_prefixed_r1_154 h)
theorem w_fX12_prefixed_r1_244 {σ0 : zSt} {σ : zSt} {x1 : Int32} {x3 : Int32} {s0 : Int32} (h : zKeM σ0 σ) : zpc (fX12_prefixed_r1_244 σ x1 x3 s0) (fun r => zKeM σ0 (r.1)) := by
  unfold fX12_prefixed_r1_244
  exact zpc_if (fun _ => zpc_bs (zKeM.w0 h (by decide)) (fun σ8 hσ8 => zpc_none)) (fun _ => zpc_ck (zpc_bi (w_fX12_next h) (fun σ2 v3 hσ2 => zpc_bi (w_fX12_signed hσ2) (fun σ4 v5 hσ4 => zpc_ck (zpc_bs (zKeM.wi hσ4 (by decide)) (fun σ6 hσ6 => zpc_ck (zpc_bs (zKeM.w0 hσ6 (by decide)) (fun σ7 hσ7 => zpc_none))))))))
theorem w_fX12_prefixed_r1_243 {σ0 : zSt} {σ : zSt} {x1 : Int32} {x3 : Int32} (h : zKeM σ0 σ) : zpc (fX12_prefixed_r1_243 σ x1 x3) (fun r => zKeM σ0 (r.1)) := by
  unfold fX12_prefixed_r1_243
  exact w_fX12_prefixed_r1_244 h
theorem w_fX12_prefixed_r1_239 {σ0 : zSt} {σ : zSt} {x1 : Int32} {x3 : Int32} (h : zKeM σ0 σ) : zpc (fX12_prefixed_r1_239 σ x1 x3) (fun r => zKeM σ0 (r.1)) := by
  unfold fX12_prefixed_r1_239
  exact w_fX12_prefixed_r1_244 h
theorem w_fX12_prefixed_r1_226 {σ0 : zSt} {σ : zSt} {x1 : Int32} {x3 : Int32} {x5 : Int32} {x6 : Int32} (h : zKeM σ0 σ) : zpc (fX12_prefixed_r1_226 σ x1 x3 x5 x6) (fun r => zKeM σ0 (r.1)) := by
  unfold fX12_prefixed_r1_226
  exact zpc_if (fun _ => zpc_if (fun _ => w_fX12_prefixed_r1_239 h) (fun _ => w_fX12_prefixed_r1_243 h)) (fun _ => w_fX12_prefixed_r1_243 h)
theorem w_fX12_prefixed_r1_220 {σ0 : zSt} {σ : zSt} {x1 : Int32} {x3 : Int32} {x5 : Int32} {x6 : Int32} (h : zKeM σ0 σ) : zpc (fX12_prefixed_r1_220 σ x1 x3 x5 x6) (fun r => zKeM σ0 (r.1)) := by
  unfold fX12_prefixed_r1_220
  exact zpc_if (fun _ => w_fX12_prefixed_r1_226 h) (fun _ => w_fX12_prefixed_r1_239 h)
theorem w_fX12_prefixed_r1_200 {σ0 : zSt} {σ : zSt} {x1 : Int32} {x3 : Int32} {x4 : Int32} {x5 : Int32} {x6 : Int32} (h : zKeM σ0 σ) : zpc (fX12_prefixed_r1_200 σ x1 x3 x4 x5 x6) (fun r => zKeM σ0 (r.1)) := by
  unfold fX12_prefixed_r1_200
  exact zpc_if (fun _ => zpc_if (fun _ => w_fX12_prefixed_r1_220 h) (fun _ => zpc_if (fun _ => w_fX12_prefixed_r1_220 h) (fun _ => w_fX12_prefixed_r1_226 h))) (fun _ => w_fX12_prefixed_r1_226 h)
theorem w_fX12_prefixed_r1 {σ0 : zSt} {σ : zSt} {x1 : Int32} (h : zKeM σ0 σ) : zpc (fX12_prefixed_r1 σ x1) (fun r => zKeM σ0 (r.1)) := by
  unfold fX12_prefixed_r1
  exact zpc_ck (zpc_bi (w_fX12_read h) (fun σ9 v10 hσ9 => zpc_if (fun _ => w_fX12_prefixed_r1_33 hσ9) (fun _ => zpc_if (fun _ => w_fX12_prefixed_r1_33 hσ9) (fun _ => zpc_if (fun _ => w_fX12_prefixed_r1_33 hσ9) (fun _ => zpc_bi (w_fX12_fetch hσ9) (fun σ11 v12 hσ11 => zpc_if (fun _ => zpc_ck (zpc_bi (w_fX12_next hσ11) (fun σ16 v17 hσ16 => zpc_bi (w_fX12_signed hσ16) (fun σ18 v19 hσ18 => zpc_ck (zpc_bs (zKeM.wi hσ18 (by decide)) (fun σ20 hσ20 => zpc_ck (zpc_bs (zKeM.w0 hσ20 (by decide)) (fun σ21 hσ21 => zpc_bi (w_fX12_next hσ21) (fun σ22 v23 hσ22 => zpc_bi (w_fX12_turn hσ22) (fun σ24 v25 hσ24 => zpc_if (fun _ => w_fX12_prefixed_r1_135 hσ24) (fun _ => zpc_if (fun _ => w_fX12_prefixed_r1_135 hσ24) (fun _ => zpc_ck (zpc_bs (zKeM.w0 hσ24 (by decide)) (fun σ26 hσ26 => zpc_bu (w_fX12_rTo hσ26) (fun σ27 hσ27 => w_fX12_prefixed_r1_135 hσ27))))))))))))))) (fun _ => zpc_bv (fun v13 _ => zpc_bv (fun v14 _ => zpc_bv (fun v15 _ => zpc_if (fun _ => zpc_if (fun _ => w_fX12_prefixed_r1_200 hσ11) (fun _ => zpc_if (fun _ => w_fX12_prefixed_r1_200 hσ11) (fun _ => zpc_if (fun _ => w_fX12_prefixed_r1_239 hσ11) (fun _ => w_fX12_prefixed_r1_200 hσ11)))) (fun _ => w_fX12_prefixed_r1_200 hσ11)))))))))))
theorem w_fX12_more3_r1_119 {σ0 : zSt} {σ : zSt} {s0 : Int32} (h : zKeM σ0 σ) : zpc (fX12_more3_r1_119 σ s0) (fun r => zKeM σ0 (r.1)) := by
  unfold fX12_more3_r1_119
  exact zpc_bu (w_fX12_push h) (fun σ1 hσ1 => zpc_some hσ1)
theorem w_fX12_more3_r1_200 {σ0 : zSt} {σ : zSt} {s0 : Int32} (h : zKeM σ0 σ) : zpc (fX12_more3_r1_200 σ s0) (fun r => zKeM σ0 (r.1)) := by
  unfold fX12_more3_r1_200
  exact zpc_some h
theorem w_fX12_more3_r1_197 {σ0 : zSt} {σ : zSt} {s0 : Int32} (h : zKeM σ0 σ) : zpc (fX12_more3_r1_197 σ s0) (fun r => zKeM σ0 (r.1)) := by
  unfold fX12_more3_r1_197
  exact zpc_bi (w_fX12_prefixed_r1 h) (fun σ2 v3 hσ2 => w_fX12_more3_r1_200 hσ2)
theorem w_fX12_more3_r1 {σ0 : zSt} {σ : zSt} {x1 : Int32} {x2 : Int32} (h : zKeM σ0 σ) : zpc (fX12_more3_r1 σ x1 x2) (fun r => zKeM σ0 (r.1)) := by
  unfold fX12_more3_r1
  exact zpc_bv (fun v4 _ => zpc_if (fun _ => zpc_bi (w_fX12_nextWord h) (fun σ22 v23 hσ22 => zpc_ck (zpc_bs (zKeM.wi hσ22 (by decide)) (fun σ24 hσ24 => zpc_bi (w_fX12_cc hσ24) (fun σ25 v26 hσ25 => zpc_if (fun _ => zpc_some hσ25) (fun _ => zpc_ck (zpc_bu (w_fX12_push hσ25) (fun σ27 hσ27 => zpc_ck (zpc_ck (zpc_bs (zKeM.wi hσ27 (by decide)) (fun σ28 hσ28 => zpc_some hσ28))))))))))) (fun _ => zpc_if (fun _ => zpc_bi (w_fX12_next h) (fun σ19 v20 hσ19 => zpc_bu (w_fX12_does hσ19) (fun σ21 hσ21 => zpc_some hσ21))) (fun _ => zpc_if (fun _ => zpc_bu (w_fX12_call h) (fun σ18 hσ18 => zpc_some hσ18)) (fun _ => zpc_ck (zpc_if (fun _ => zpc_if (fun _ => zpc_bi (w_fX12_pair h) (fun σ16 v17 hσ16 => w_fX12_more3_r1_119 hσ16)) (fun _ => zpc_bi (w_fX12_rp h) (fun σ14 v15 hσ14 => w_fX12_more3_r1_119 hσ14))) (fun _ => zpc_if (fun _ => zpc_bi (w_fX12_nextWord h) (fun σ9 v10 hσ9 => zpc_ck (zpc_bs (zKeM.wi hσ9 (by decide)) (fun σ11 hσ11 => zpc_ck (zpc_bu (w_fX12_push hσ11) (fun σ12 hσ12 => zpc_ck (zpc_ck (zpc_bs (zKeM.wi hσ12 (by decide)) (fun σ13 hσ13 => zpc_some hσ13))))))))) (fun _ => zpc_if (fun _ => zpc_bi (w_fX12_fetch h) (fun σ5 v6 hσ5 => zpc_bi (w_fX12_more hσ5) (fun σ7 v8 hσ7 => w_fX12_more3_r1_200 hσ7))) (fun _ => zpc_if (fun _ => w_fX12_more3_r1_197 h) (fun _ => w_fX12_more3_r1_197 h)))))))))
theorem w_fX12_jump {σ0 : zSt} {σ : zSt} {x1 : Int32} (h : zKeM σ0 σ) : zpc (fX12_jump σ x1) (fun r => zKeM σ0 (r)) := by
  unfold fX12_jump
  exact zpc_ck (zpc_ck (zpc_bs (zKeM.wi h (by decide)) (fun σ1 hσ1 => zpc_ck (zpc_ck (zpc_bs (zKeM.wi hσ1 (by decide)) (fun σ2 hσ2 => zpc_some hσ2))))))
theorem w_fX12_moves_85 {σ0 : zSt} {σ : zSt} (h : zKeM σ0 σ) : zpc (fX12_moves_85 σ) (fun r => zKeM σ0 (r.1)) := by
  unfold fX12_moves_85
  exact zpc_some h
theorem w_fX12_moves_15 {σ0 : zSt} {σ : zSt} {x2 : Int32} {s0 : Int32} (h : zKeM σ0 σ) : zpc (fX12_moves_15 σ x2 s0) (fun r => zKeM σ0 (r.1)) := by
  unfold fX12_moves_15
  exact zpc_bi (w_fX12_pair h) (fun σ1 v2 hσ1 => zpc_if (fun _ => zpc_ck (zpc_bu (w_fX12_write hσ1) (fun σ3 hσ3 => zpc_ck (zpc_ck (zpc_bs (zKeM.wi hσ3 (by decide)) (fun σ4 hσ4 => w_fX12_moves_85 hσ4)))))) (fun _ => zpc_bi (w_fX12_read hσ1) (fun σ5 v6 hσ5 => zpc_ck (zpc_bs (zKeM.wi hσ5 (by decide)) (fun σ7 hσ7 => zpc_ck (zpc_bs (zKeM.wi hσ7 (by decide)) (fun σ8 hσ8 => w_fX12_moves_85 hσ8)))))))
theorem w_fX12_moves_214 {σ0 : zSt} {σ : zSt} {s0 : Int32} (h : zKeM σ0 σ) : zpc (fX12_moves_214 σ s0) (fun r => zKeM σ0 (r.1)) := by
  unfold fX12_moves_214
  exact zpc_some h
theorem w_fX12_moves_201 {σ0 : zSt} {σ : zSt} {x1 : Int32} {s0 : Int32} {s1 : Int32} (h : zKeM σ0 σ) : zpc (fX12_moves_201 σ x1 s0 s1) (fun r => zKeM σ0 (r.1)) := by
  unfold fX12_moves_201
  exact zpc_ck (zpc_bs (zKeM.wi h (by decide)) (fun σ9 hσ9 => zpc_if (fun _ => w_fX12_moves_214 hσ9) (fun _ => w_fX12_moves_214 hσ9)))
theorem w_fX12_moves_195 {σ0 : zSt} {σ : zSt} {x1 : Int32} {x3 : Int32} {s0 : Int32} (h : zKeM σ0 σ) : zpc (fX12_moves_195 σ x1 x3 s0) (fun r => zKeM σ0 (r.1)) := by
  unfold fX12_moves_195
  exact w_fX12_moves_201 h
theorem w_fX12_moves_160 {σ0 : zSt} {σ : zSt} {x1 : Int32} {x2 : Int32} {x3 : Int32} (h : zKeM σ0 σ) : zpc (fX12_moves_160 σ x1 x2 x3) (fun r => zKeM σ0 (r.1)) := by
  unfold fX12_moves_160
  exact zpc_if (fun _ => zpc_if (fun _ => zpc_ck (w_fX12_moves_201 h)) (fun _ => w_fX12_moves_195 h)) (fun _ => w_fX12_moves_195 h)
theorem w_fX12_moves_114 {σ0 : zSt} {σ : zSt} {x1 : Int32} {x2 : Int32} {x3 : Int32} (h : zKeM σ0 σ) : zpc (fX12_moves_114 σ x1 x2 x3) (fun r => zKeM σ0 (r.1)) := by
  unfold fX12_moves_114
  exact zpc_if (fun _ => zpc_bi (w_fX12_hl h) (fun σ14 v15 hσ14 => zpc_bu (w_fX12_wordTo hσ14) (fun σ16 hσ16 => w_fX12_moves_160 hσ16))) (fun _ => zpc_if (fun _ => zpc_ck (zpc_bu (w_fX12_write h) (fun σ10 hσ10 => w_fX12_moves_160 hσ10))) (fun _ => zpc_bi (w_fX12_read h) (fun σ11 v12 hσ11 => zpc_ck (zpc_bs (zKeM.wi hσ11 (by decide)) (fun σ13 hσ13 => w_fX12_moves_160 hσ13)))))
theorem w_fX12_moves {σ0 : zSt} {σ : zSt} {x1 : Int32} {x2 : Int32} (h : zKeM σ0 σ) : zpc (fX12_moves σ x1 x2) (fun r => zKeM σ0 (r.1)) := by
  unfold fX12_moves
  exact zpc_if (fun _ => zpc_bi (w_fX12_nextWord h) (fun σ17 v18 hσ17 => zpc_if (fun _ => zpc_if (fun _ => w_fX12_moves_114 hσ17) (fun _ => zpc_bi (w_fX12_word hσ17) (fun σ19 v20 hσ19 => zpc_bu (w_fX12_hlTo hσ19) (fun σ21 hσ21 => w_fX12_moves_160 hσ21)))) (fun _ => w_fX12_moves_114 hσ17))) (fun _ => zpc_if (fun _ => w_fX12_moves_15 h) (fun _ => w_fX12_moves_15 h))
theorem w_fX12_zero_154 {σ0 : zSt} {σ : zSt} {s0 : Int32} (h : zKeM σ0 σ) : zpc (fX12_zero_154 σ s0) (fun r => zKeM σ0 (r.1)) := by
  unfold fX12_zero_154
  exact zpc_some h
theorem w_fX12_zero_122 {σ0 : zSt} {σ : zSt} {x1 : Int32} {x5 : Int32} (h : zKeM σ0 σ) : zpc (fX12_zero_122 σ x1 x5) (fun r => zKeM σ0 (r.1)) := by
  unfold fX12_zero_122
  exact zpc_if (fun _ => zpc_if (fun _ => w_fX12_zero_154 h) (fun _ => w_fX12_zero_154 h)) (fun _ => zpc_if (fun _ => w_fX12_zero_154 h) (fun _ => w_fX12_zero_154 h))
theorem w_fX12_zero_109 {σ0 : zSt} {σ : zSt} {x1 : Int32} {x4 : Int32} {s0 : Int32} (h : zKeM σ0 σ) : zpc (fX12_zero_109 σ x1 x4 s0) (fun r => zKeM σ0 (r.1)) := by
  unfold fX12_zero_109
  exact zpc_if (fun _ => w_fX12_zero_122 h) (fun _ => zpc_bu (w_fX12_jump h) (fun σ1 hσ1 => w_fX12_zero_122 hσ1))
theorem w_fX12_zero_104 {σ0 : zSt} {σ : zSt} {x1 : Int32} {x4 : Int32} (h : zKeM σ0 σ) : zpc (fX12_zero_104 σ x1 x4) (fun r => zKeM σ0 (r.1)) := by
  unfold fX12_zero_104
  exact w_fX12_zero_109 h
theorem w_fX12_zero_67 {σ0 : zSt} {σ : zSt} {x1 : Int32} {x4 : Int32} (h : zKeM σ0 σ) : zpc (fX12_zero_67 σ x1 x4) (fun r => zKeM σ0 (r.1)) := by
  unfold fX12_zero_67
  exact zpc_if (fun _ => zpc_ck (zpc_if (fun _ => w_fX12_zero_109 h) (fun _ => w_fX12_zero_109 h))) (fun _ => zpc_if (fun _ => w_fX12_zero_104 h) (fun _ => zpc_bi (w_fX12_cc h) (fun σ2 v3 hσ2 => zpc_if (fun _ => w_fX12_zero_109 hσ2) (fun _ => w_fX12_zero_104 hσ2))))
theorem w_fX12_zero_266 {σ0 : zSt} {σ : zSt} {x6 : Int32} {s0 : Int32} {s1 : Int32} (h : zKeM σ0 σ) : zpc (fX12_zero_266 σ x6 s0 s1) (fun r => zKeM σ0 (r.1)) := by
  unfold fX12_zero_266
  exact zpc_bu (w_fX12_put h) (fun σ4 hσ4 => zpc_bu (w_fX12_put hσ4) (fun σ5 hσ5 => zpc_bu (w_fX12_xy hσ5) (fun σ6 hσ6 => zpc_some hσ6)))
theorem w_fX12_zero_249 {σ0 : zSt} {σ : zSt} {x6 : Int32} {s0 : Int32} {s1 : Int32} (h : zKeM σ0 σ) : zpc (fX12_zero_249 σ x6 s0 s1) (fun r => zKeM σ0 (r.1)) := by
  unfold fX12_zero_249
  exact zpc_bu (w_fX12_put h) (fun σ7 hσ7 => zpc_if (fun _ => w_fX12_zero_266 hσ7) (fun _ => w_fX12_zero_266 hσ7))
theorem w_fX12_zero_306 {σ0 : zSt} {σ : zSt} {s0 : Int32} {s1 : Int32} (h : zKeM σ0 σ) : zpc (fX12_zero_306 σ s0 s1) (fun r => zKeM σ0 (r.1)) := by
  unfold fX12_zero_306
  exact zpc_bi (w_fX12_moves h) (fun σ8 v9 hσ8 => zpc_some hσ8)
theorem w_fX12_zero_328 {σ0 : zSt} {σ : zSt} {s0 : Int32} {s1 : Int32} {s2 : Int32} (h : zKeM σ0 σ) : zpc (fX12_zero_328 σ s0 s1 s2) (fun r => zKeM σ0 (r.1)) := by
  unfold fX12_zero_328
  exact zpc_bu (w_fX12_rpTo h) (fun σ10 hσ10 => zpc_some hσ10)
theorem w_fX12_zero_178 {σ0 : zSt} {σ : zSt} {x1 : Int32} {x2 : Int32} {x3 : Int32} (h : zKeM σ0 σ) : zpc (fX12_zero_178 σ x1 x2 x3) (fun r => zKeM σ0 (r.1)) := by
  unfold fX12_zero_178
  exact zpc_if (fun _ => zpc_bi (w_fX12_hl h) (fun σ13 v14 hσ13 => zpc_bi (w_fX12_rp hσ13) (fun σ15 v16 hσ15 => zpc_ck (zpc_bs (zKeM.wi hσ15 (by decide)) (fun σ17 hσ17 => zpc_bv (fun v18 _ => zpc_bu (w_fX12_hlTo hσ17) (fun σ19 hσ19 => zpc_if (fun _ => w_fX12_zero_249 hσ19) (fun _ => w_fX12_zero_249 hσ19)))))))) (fun _ => zpc_if (fun _ => zpc_ck (zpc_if (fun _ => w_fX12_zero_306 h) (fun _ => w_fX12_zero_306 h))) (fun _ => zpc_bi (w_fX12_rp h) (fun σ11 v12 hσ11 => zpc_ck (zpc_if (fun _ => w_fX12_zero_328 hσ11) (fun _ => w_fX12_zero_328 hσ11)))))
theorem w_fX12_zero {σ0 : zSt} {σ : zSt} {x1 : Int32} {x2 : Int32} (h : zKeM σ0 σ) : zpc (fX12_zero σ x1 x2) (fun r => zKeM σ0 (r.1)) := by
  unfold fX12_zero
  exact zpc_bv (fun v20 _ => zpc_if (fun _ => zpc_if (fun _ => zpc_some h) (fun _ => zpc_if (fun _ => zpc_bu (w_fX12_change h) (fun σ29 hσ29 => zpc_bu (w_fX12_change hσ29) (fun σ30 hσ30 => zpc_some hσ30))) (fun _ => zpc_bi (w_fX12_next h) (fun σ24 v25 hσ24 => zpc_bi (w_fX12_signed hσ24) (fun σ26 v27 hσ26 => zpc_if (fun _ => zpc_ck (zpc_ck (zpc_bs (zKeM.wi hσ26 (by decide)) (fun σ28 hσ28 => w_fX12_zero_67 hσ28)))) (fun _ => w_fX12_zero_67 hσ26)))))) (fun _ => zpc_if (fun _ => zpc_ck (zpc_if (fun _ => zpc_bi (w_fX12_nextWord h) (fun σ21 v22 hσ21 => zpc_bu (w_fX12_rpTo hσ21) (fun σ23 hσ23 => zpc_some hσ23))) (fun _ => w_fX12_zero_178 h))) (fun _ => w_fX12_zero_178 h)))
theorem w_fX12_adjusts_130 {σ0 : zSt} {σ : zSt} {s0 : Int32} {s1 : Int32} (h : zKeM σ0 σ) : zpc (fX12_adjusts_130 σ s0 s1) (fun r => zKeM σ0 (r)) := by
  unfold fX12_adjusts_130
  exact zpc_ck (zpc_bs (zKeM.wi h (by decide)) (fun σ1 hσ1 => zpc_ck (zpc_bu (w_fX12_by hσ1) (fun σ2 hσ2 => zpc_ck (zpc_bi (w_fX12_isEven hσ2) (fun σ3 v4 hσ3 => zpc_bu (w_fX12_put hσ3) (fun σ5 hσ5 => zpc_some hσ5)))))))
theorem w_fX12_adjusts_105 {σ0 : zSt} {σ : zSt} {x1 : Int32} {x2 : Int32} {s0 : Int32} {s1 : Int32} (h : zKeM σ0 σ) : zpc (fX12_adjusts_105 σ x1 x2 s0 s1) (fun r => zKeM σ0 (r)) := by
  unfold fX12_adjusts_105
  exact zpc_bu (w_fX12_put h) (fun σ6 hσ6 => zpc_bi (w_fX12_flag hσ6) (fun σ7 v8 hσ7 => zpc_if (fun _ => w_fX12_adjusts_130 hσ7) (fun _ => w_fX12_adjusts_130 hσ7)))
theorem w_fX12_adjusts_104 {σ0 : zSt} {σ : zSt} {x1 : Int32} {x2 : Int32} {s0 : Int32} (h : zKeM σ0 σ) : zpc (fX12_adjusts_104 σ x1 x2 s0) (fun r => zKeM σ0 (r)) := by
  unfold fX12_adjusts_104
  exact w_fX12_adjusts_105 h
theorem w_fX12_adjusts_55 {σ0 : zSt} {σ : zSt} {x1 : Int32} {x2 : Int32} (h : zKeM σ0 σ) : zpc (fX12_adjusts_55 σ x1 x2) (fun r => zKeM σ0 (r)) := by
  unfold fX12_adjusts_55
  exact zpc_bi (w_fX12_flag h) (fun σ9 v10 hσ9 => zpc_if (fun _ => zpc_if (fun _ => w_fX12_adjusts_105 hσ9) (fun _ => w_fX12_adjusts_105 hσ9)) (fun _ => zpc_bi (w_fX12_flag hσ9) (fun σ11 v12 hσ11 => zpc_if (fun _ => zpc_if (fun _ => w_fX12_adjusts_104 hσ11) (fun _ => w_fX12_adjusts_105 hσ11)) (fun _ => w_fX12_adjusts_104 hσ11))))
theorem w_fX12_adjusts_46 {σ0 : zSt} {σ : zSt} {x1 : Int32} {x2 : Int32} (h : zKeM σ0 σ) : zpc (fX12_adjusts_46 σ x1 x2) (fun r => zKeM σ0 (r)) := by
  unfold fX12_adjusts_46
  exact zpc_bv (fun v13 _ => zpc_bu (w_fX12_put h) (fun σ14 hσ14 => w_fX12_adjusts_55 hσ14))
theorem w_fX12_adjusts_30 {σ0 : zSt} {σ : zSt} {x1 : Int32} {x2 : Int32} (h : zKeM σ0 σ) : zpc (fX12_adjusts_30 σ x1 x2) (fun r => zKeM σ0 (r)) := by
  unfold fX12_adjusts_30
  exact zpc_if (fun _ => w_fX12_adjusts_46 h) (fun _ => zpc_bi (w_fX12_flag h) (fun σ15 v16 hσ15 => zpc_if (fun _ => w_fX12_adjusts_46 hσ15) (fun _ => w_fX12_adjusts_55 hσ15)))
theorem w_fX12_adjusts_27 {σ0 : zSt} {σ : zSt} {x1 : Int32} {x2 : Int32} (h : zKeM σ0 σ) : zpc (fX12_adjusts_27 σ x1 x2) (fun r => zKeM σ0 (r)) := by
  unfold fX12_adjusts_27
  exact zpc_bv (fun v17 _ => w_fX12_adjusts_30 h)
theorem w_fX12_adjusts {σ0 : zSt} {σ : zSt} (h : zKeM σ0 σ) : zpc (fX12_adjusts σ) (fun r => zKeM σ0 (r)) := by
  unfold fX12_adjusts
  exact zpc_ck (zpc_bv (fun v18 _ => zpc_if (fun _ => w_fX12_adjusts_27 h) (fun _ => zpc_bi (w_fX12_flag h) (fun σ19 v20 hσ19 => zpc_if (fun _ => w_fX12_adjusts_27 hσ19) (fun _ => w_fX12_adjusts_30 hσ19)))))
theorem w_fX12_singles_28 {σ0 : zSt} {σ : zSt} {s0 : Int32} (h : zKeM σ0 σ) : zpc (fX12_singles_28 σ s0) (fun r => zKeM σ0 (r.1)) := by
  unfold fX12_singles_28
  exact zpc_some h
theorem w_fX12_singles_149 {σ0 : zSt} {σ : zSt} {s0 : Int32} (h : zKeM σ0 σ) : zpc (fX12_singles_149 σ s0) (fun r => zKeM σ0 (r.1)) := by
  unfold fX12_singles_149
  exact zpc_some h
theorem w_fX12_singles_134 {σ0 : zSt} {σ : zSt} {x1 : Int32} {s0 : Int32} {s1 : Int32} (h : zKeM σ0 σ) : zpc (fX12_singles_134 σ x1 s0 s1) (fun r => zKeM σ0 (r.1)) := by
  unfold fX12_singles_134
  exact zpc_bu (w_fX12_put h) (fun σ1 hσ1 => zpc_if (fun _ => w_fX12_singles_149 hσ1) (fun _ => w_fX12_singles_149 hσ1))
theorem w_fX12_singles_119 {σ0 : zSt} {σ : zSt} {x1 : Int32} {x2 : Int32} {s0 : Int32} {s1 : Int32} (h : zKeM σ0 σ) : zpc (fX12_singles_119 σ x1 x2 s0 s1) (fun r => zKeM σ0 (r.1)) := by
  unfold fX12_singles_119
  exact zpc_bu (w_fX12_put h) (fun σ2 hσ2 => zpc_if (fun _ => w_fX12_singles_134 hσ2) (fun _ => w_fX12_singles_134 hσ2))
theorem w_fX12_singles_111 {σ0 : zSt} {σ : zSt} {x1 : Int32} {x2 : Int32} {s0 : Int32} {s1 : Int32} {s2 : Int32} (h : zKeM σ0 σ) : zpc (fX12_singles_111 σ x1 x2 s0 s1 s2) (fun r => zKeM σ0 (r.1)) := by
  unfold fX12_singles_111
  exact zpc_if (fun _ => w_fX12_singles_119 h) (fun _ => w_fX12_singles_119 h)
theorem w_fX12_singles_92 {σ0 : zSt} {σ : zSt} {x1 : Int32} {x2 : Int32} {x3 : Int32} {s0 : Int32} {s1 : Int32} (h : zKeM σ0 σ) : zpc (fX12_singles_92 σ x1 x2 x3 s0 s1) (fun r => zKeM σ0 (r.1)) := by
  unfold fX12_singles_92
  exact zpc_bu (w_fX12_put h) (fun σ3 hσ3 => zpc_if (fun _ => w_fX12_singles_111 hσ3) (fun _ => w_fX12_singles_111 hσ3))
theorem w_fX12_singles_84 {σ0 : zSt} {σ : zSt} {x1 : Int32} {x2 : Int32} {x3 : Int32} {s0 : Int32} {s1 : Int32} {s2 : Int32} (h : zKeM σ0 σ) : zpc (fX12_singles_84 σ x1 x2 x3 s0 s1 s2) (fun r => zKeM σ0 (r.1)) := by
  unfold fX12_singles_84
  exact zpc_if (fun _ => w_fX12_singles_92 h) (fun _ => w_fX12_singles_92 h)
theorem w_fX12_singles_50 {σ0 : zSt} {σ : zSt} {x1 : Int32} {x2 : Int32} {s0 : Int32} {s1 : Int32} (h : zKeM σ0 σ) : zpc (fX12_singles_50 σ x1 x2 s0 s1) (fun r => zKeM σ0 (r.1)) := by
  unfold fX12_singles_50
  exact zpc_bv (fun v4 _ => zpc_bu (w_fX12_rTo h) (fun σ5 hσ5 => zpc_bu (w_fX12_by hσ5) (fun σ6 hσ6 => zpc_if (fun _ => w_fX12_singles_84 hσ6) (fun _ => w_fX12_singles_84 hσ6))))
theorem w_fX12_singles_316 {σ0 : zSt} {σ : zSt} (h : zKeM σ0 σ) : zpc (fX12_singles_316 σ) (fun r => zKeM σ0 (r.1)) := by
  unfold fX12_singles_316
  exact zpc_some h
theorem w_fX12_singles_297 {σ0 : zSt} {σ : zSt} {s0 : Int32} {s1 : Int32} (h : zKeM σ0 σ) : zpc (fX12_singles_297 σ s0 s1) (fun r => zKeM σ0 (r.1)) := by
  unfold fX12_singles_297
  exact zpc_bu (w_fX12_put h) (fun σ7 hσ7 => zpc_bu (w_fX12_put hσ7) (fun σ8 hσ8 => zpc_ck (zpc_bu (w_fX12_xy hσ8) (fun σ9 hσ9 => w_fX12_singles_316 hσ9))))
theorem w_fX12_singles_292 {σ0 : zSt} {σ : zSt} {s0 : Int32} (h : zKeM σ0 σ) : zpc (fX12_singles_292 σ s0) (fun r => zKeM σ0 (r.1)) := by
  unfold fX12_singles_292
  exact w_fX12_singles_297 h
theorem w_fX12_singles_273 {σ0 : zSt} {σ : zSt} {x1 : Int32} {s0 : Int32} {s1 : Int32} (h : zKeM σ0 σ) : zpc (fX12_singles_273 σ x1 s0 s1) (fun r => zKeM σ0 (r.1)) := by
  unfold fX12_singles_273
  exact zpc_bu (w_fX12_put h) (fun σ10 hσ10 => zpc_if (fun _ => w_fX12_singles_292 hσ10) (fun _ => zpc_bi (w_fX12_flag hσ10) (fun σ11 v12 hσ11 => zpc_if (fun _ => w_fX12_singles_292 hσ11) (fun _ => w_fX12_singles_297 hσ11))))
theorem w_fX12_singles_272 {σ0 : zSt} {σ : zSt} {x1 : Int32} {s0 : Int32} (h : zKeM σ0 σ) : zpc (fX12_singles_272 σ x1 s0) (fun r => zKeM σ0 (r.1)) := by
  unfold fX12_singles_272
  exact w_fX12_singles_273 h
theorem w_fX12_singles {σ0 : zSt} {σ : zSt} {x1 : Int32} {x2 : Int32} (h : zKeM σ0 σ) : zpc (fX12_singles σ x1 x2) (fun r => zKeM σ0 (r.1)) := by
  unfold fX12_singles
  exact zpc_if (fun _ => zpc_bi (w_fX12_next h) (fun σ28 v29 hσ28 => zpc_bu (w_fX12_rTo hσ28) (fun σ30 hσ30 => zpc_if (fun _ => w_fX12_singles_28 hσ30) (fun _ => w_fX12_singles_28 hσ30)))) (fun _ => zpc_if (fun _ => zpc_if (fun _ => zpc_if (fun _ => zpc_bu (w_fX12_adjusts h) (fun σ19 hσ19 => w_fX12_singles_316 hσ19)) (fun _ => zpc_if (fun _ => zpc_ck (zpc_ck (zpc_bs (zKeM.wi h (by decide)) (fun σ15 hσ15 => zpc_bu (w_fX12_put hσ15) (fun σ16 hσ16 => zpc_bu (w_fX12_put hσ16) (fun σ17 hσ17 => zpc_ck (zpc_bu (w_fX12_xy hσ17) (fun σ18 hσ18 => w_fX12_singles_316 hσ18)))))))) (fun _ => zpc_if (fun _ => zpc_bi (w_fX12_flag h) (fun σ13 v14 hσ13 => zpc_if (fun _ => w_fX12_singles_273 hσ13) (fun _ => w_fX12_singles_272 hσ13))) (fun _ => w_fX12_singles_272 h)))) (fun _ => zpc_ck (zpc_bi (w_fX12_turned h) (fun σ20 v21 hσ20 => zpc_ck (zpc_bs (zKeM.wi hσ20 (by decide)) (fun σ22 hσ22 => zpc_ck (zpc_bu (w_fX12_xy hσ22) (fun σ23 hσ23 => zpc_bu (w_fX12_put hσ23) (fun σ24 hσ24 => zpc_bu (w_fX12_put hσ24) (fun σ25 hσ25 => w_fX12_singles_316 hσ25)))))))))) (fun _ => zpc_bi (w_fX12_r h) (fun σ26 v27 hσ26 => zpc_if (fun _ => w_fX12_singles_50 hσ26) (fun _ => w_fX12_singles_50 hσ26))))
theorem w_fX12_plain_r1_160 {σ0 : zSt} {σ : zSt} {s0 : Int32} (h : zKeM σ0 σ) : zpc (fX12_plain_r1_160 σ s0) (fun r => zKeM σ0 (r.1)) := by
  unfold fX12_plain_r1_160
  exact zpc_some h
theorem w_fX12_plain_r1_139 {σ0 : zSt} {σ : zSt} {s0 : Int32} (h : zKeM σ0 σ) : zpc (fX12_plain_r1_139 σ s0) (fun r => zKeM σ0 (r.1)) := by
  unfold fX12_plain_r1_139
  exact zpc_some h
theorem w_fX12_plain_r1_116 {σ0 : zSt} {σ : zSt} {s0 : Int32} (h : zKeM σ0 σ) : zpc (fX12_plain_r1_116 σ s0) (fun r => zKeM σ0 (r.1)) := by
  unfold fX12_plain_r1_116
  exact zpc_some h
theorem w_fX12_plain_r1_115 {σ0 : zSt} {σ : zSt} (h : zKeM σ0 σ) : zpc (fX12_plain_r1_115 σ) (fun r => zKeM σ0 (r.1)) := by
  unfold fX12_plain_r1_115
  exact w_fX12_plain_r1_116 h
theorem w_fX12_plain_r1_110 {σ0 : zSt} {σ : zSt} (h : zKeM σ0 σ) : zpc (fX12_plain_r1_110 σ) (fun r => zKeM σ0 (r.1)) := by
  unfold fX12_plain_r1_110
  exact w_fX12_plain_r1_116 h
theorem w_fX12_plain_r1_92 {σ0 : zSt} {σ : zSt} {x1 : Int32} {x2 : Int32} {x3 : Int32} (h : zKeM σ0 σ) : zpc (fX12_plain_r1_92 σ x1 x2 x3) (fun r => zKeM σ0 (r.1)) := by
  unfold fX12_plain_r1_92
  exact zpc_if (fun _ => w_fX12_plain_r1_115 h) (fun _ => zpc_if (fun _ => w_fX12_plain_r1_110 h) (fun _ => zpc_if (fun _ => w_fX12_plain_r1_110 h) (fun _ => w_fX12_plain_r1_115 h)))
theorem w_fX12_plain_r1_64 {σ0 : zSt} {σ : zSt} {s0 : Int32} (h : zKeM σ0 σ) : zpc (fX12_plain_r1_64 σ s0) (fun r => zKeM σ0 (r.1)) := by
  unfold fX12_plain_r1_64
  exact zpc_some h
theorem w_fX12_plain_r1 {σ0 : zSt} {σ : zSt} {x1 : Int32} (h : zKeM σ0 σ) : zpc (fX12_plain_r1 σ x1) (fun r => zKeM σ0 (r.1)) := by
  unfold fX12_plain_r1
  exact zpc_bv (fun v1 _ => zpc_bv (fun v2 _ => zpc_if (fun _ => zpc_if (fun _ => zpc_bi (w_fX12_singles h) (fun σ3 v4 hσ3 => w_fX12_plain_r1_64 hσ3)) (fun _ => zpc_bi (w_fX12_zero h) (fun σ5 v6 hσ5 => w_fX12_plain_r1_64 hσ5))) (fun _ => zpc_if (fun _ => zpc_if (fun _ => zpc_ck (zpc_bs (zKeM.wi h (by decide)) (fun σ10 hσ10 => w_fX12_plain_r1_92 hσ10))) (fun _ => zpc_bi (w_fX12_r h) (fun σ7 v8 hσ7 => zpc_bu (w_fX12_rTo hσ7) (fun σ9 hσ9 => w_fX12_plain_r1_92 hσ9)))) (fun _ => zpc_if (fun _ => zpc_bi (w_fX12_r h) (fun σ11 v12 hσ11 => zpc_bu (w_fX12_does hσ11) (fun σ13 hσ13 => zpc_if (fun _ => w_fX12_plain_r1_139 hσ13) (fun _ => w_fX12_plain_r1_139 hσ13)))) (fun _ => zpc_if (fun _ => zpc_bi (w_fX12_more3_r1 h) (fun σ14 v15 hσ14 => w_fX12_plain_r1_160 hσ14)) (fun _ => zpc_bi (w_fX12_three h) (fun σ16 v17 hσ16 => w_fX12_plain_r1_160 hσ16)))))))
theorem w_fX12_prefixed_33 {σ0 : zSt} {σ : zSt} (h : zKeM σ0 σ) : zpc (fX12_prefixed_33 σ) (fun r => zKeM σ0 (r.1)) := by
  unfold fX12_prefixed_33
  exact zpc_ck (zpc_bs (zKeM.wi h (by decide)) (fun σ1 hσ1 => zpc_some hσ1))
theorem w_fX12_prefixed_154 {σ0 : zSt} {σ : zSt} {s0 : Int32} (h : zKeM σ0 σ) : zpc (fX12_prefixed_154 σ s0) (fun r => zKeM σ0 (r.1)) := by
  unfold fX12_prefixed_154
  exact zpc_some h
theorem w_fX12_prefixed_135 {σ0 : zSt} {σ : zSt} {x4 : Int32} {x5 : Int32} (h : zKeM σ0 σ) : zpc (fX12_prefixed_135 σ x4 x5) (fun r => zKeM σ0 (r.1)) := by
  unfold fX12_prefixed_135
  exact zpc_if (fun _ => w_fX12_prefixed_154 h) (fun _ => w_fX12_prefixed_154 h)
theorem w_fX12_prefixed_311 {σ0 : zSt} {σ : zSt} {s0 : Int32} {s1 : Int32} (h : zKeM σ0 σ) : zpc (fX12_prefixed_311 σ s0 s1) (fun r => zKeM σ0 (r.1)) := by
  unfold fX12_prefixed_311
  exact zpc_some h
theorem w_fX12_prefixed_244 {σ0 : zSt} {σ : zSt} {x1 : Int32} {x3 : Int32} {s0 : Int32} (h : zKeM σ0 σ) : zpc (fX12_prefixed_244 σ x1 x3 s0) (fun r => zKeM σ0 (r.1)) := by
  unfold fX12_prefixed_244
  exact zpc_if (fun _ => zpc_bs (zKeM.w0 h (by decide)) (fun σ10 hσ10 => zpc_bi (w_fX12_plain_r1 hσ10) (fun σ11 v12 hσ11 => zpc_some hσ11))) (fun _ => zpc_ck (zpc_bi (w_fX12_next h) (fun σ2 v3 hσ2 => zpc_bi (w_fX12_signed hσ2) (fun σ4 v5 hσ4 => zpc_ck (zpc_bs (zKeM.wi hσ4 (by decide)) (fun σ6 hσ6 => zpc_ck (zpc_bs (zKeM.w0 hσ6 (by decide)) (fun σ7 hσ7 => zpc_bi (w_fX12_plain_r1 hσ7) (fun σ8 v9 hσ8 => zpc_if (fun _ => w_fX12_prefixed_311 hσ8) (fun _ => w_fX12_prefixed_311 hσ8))))))))))
theorem w_fX12_prefixed_243 {σ0 : zSt} {σ : zSt} {x1 : Int32} {x3 : Int32} (h : zKeM σ0 σ) : zpc (fX12_prefixed_243 σ x1 x3) (fun r => zKeM σ0 (r.1)) := by
  unfold fX12_prefixed_243
  exact w_fX12_prefixed_244 h
theorem w_fX12_prefixed_239 {σ0 : zSt} {σ : zSt} {x1 : Int32} {x3 : Int32} (h : zKeM σ0 σ) : zpc (fX12_prefixed_239 σ x1 x3) (fun r => zKeM σ0 (r.1)) := by
  unfold fX12_prefixed_239
  exact w_fX12_prefixed_244 h
theorem w_fX12_prefixed_226 {σ0 : zSt} {σ : zSt} {x1 : Int32} {x3 : Int32} {x5 : Int32} {x6 : Int32} (h : zKeM σ0 σ) : zpc (fX12_prefixed_226 σ x1 x3 x5 x6) (fun r => zKeM σ0 (r.1)) := by
  unfold fX12_prefixed_226
  exact zpc_if (fun _ => zpc_if (fun _ => w_fX12_prefixed_239 h) (fun _ => w_fX12_prefixed_243 h)) (fun _ => w_fX12_prefixed_243 h)
theorem w_fX12_prefixed_220 {σ0 : zSt} {σ : zSt} {x1 : Int32} {x3 : Int32} {x5 : Int32} {x6 : Int32} (h : zKeM σ0 σ) : zpc (fX12_prefixed_220 σ x1 x3 x5 x6) (fun r => zKeM σ0 (r.1)) := by
  unfold fX12_prefixed_220
  exact zpc_if (fun _ => w_fX12_prefixed_226 h) (fun _ => w_fX12_prefixed_239 h)
theorem w_fX12_prefixed_200 {σ0 : zSt} {σ : zSt} {x1 : Int32} {x3 : Int32} {x4 : Int32} {x5 : Int32} {x6 : Int32} (h : zKeM σ0 σ) : zpc (fX12_prefixed_200 σ x1 x3 x4 x5 x6) (fun r => zKeM σ0 (r.1)) := by
  unfold fX12_prefixed_200
  exact zpc_if (fun _ => zpc_if (fun _ => w_fX12_prefixed_220 h) (fun _ => zpc_if (fun _ => w_fX12_prefixed_220 h) (fun _ => w_fX12_prefixed_226 h))) (fun _ => w_fX12_prefixed_226 h)
theorem w_fX12_prefixed {σ0 : zSt} {σ : zSt} {x1 : Int32} (h : zKeM σ0 σ) : zpc (fX12_prefixed σ x1) (fun r => zKeM σ0 (r.1)) := by
  unfold fX12_prefixed
  exact zpc_ck (zpc_bi (w_fX12_read h) (fun σ13 v14 hσ13 => zpc_if (fun _ => w_fX12_prefixed_33 hσ13) (fun _ => zpc_if (fun _ => w_fX12_prefixed_33 hσ13) (fun _ => zpc_if (fun _ => w_fX12_prefixed_33 hσ13) (fun _ => zpc_bi (w_fX12_fetch hσ13) (fun σ15 v16 hσ15 => zpc_if (fun _ => zpc_ck (zpc_bi (w_fX12_next hσ15) (fun σ20 v21 hσ20 => zpc_bi (w_fX12_signed hσ20) (fun σ22 v23 hσ22 => zpc_ck (zpc_bs (zKeM.wi hσ22 (by decide)) (fun σ24 hσ24 => zpc_ck (zpc_bs (zKeM.w0 hσ24 (by decide)) (fun σ25 hσ25 => zpc_bi (w_fX12_next hσ25) (fun σ26 v27 hσ26 => zpc_bi (w_fX12_turn hσ26) (fun σ28 v29 hσ28 => zpc_if (fun _ => w_fX12_prefixed_135 hσ28) (fun _ => zpc_if (fun _ => w_fX12_prefixed_135 hσ28) (fun _ => zpc_ck (zpc_bs (zKeM.w0 hσ28 (by decide)) (fun σ30 hσ30 => zpc_bu (w_fX12_rTo hσ30) (fun σ31 hσ31 => w_fX12_prefixed_135 hσ31))))))))))))))) (fun _ => zpc_bv (fun v17 _ => zpc_bv (fun v18 _ => zpc_bv (fun v19 _ => zpc_if (fun _ => zpc_if (fun _ => w_fX12_prefixed_200 hσ15) (fun _ => zpc_if (fun _ => w_fX12_prefixed_200 hσ15) (fun _ => zpc_if (fun _ => w_fX12_prefixed_239 hσ15) (fun _ => w_fX12_prefixed_200 hσ15)))) (fun _ => w_fX12_prefixed_200 hσ15)))))))))))
theorem w_fX12_more3_119 {σ0 : zSt} {σ : zSt} {s0 : Int32} (h : zKeM σ0 σ) : zpc (fX12_more3_119 σ s0) (fun r => zKeM σ0 (r.1)) := by
  unfold fX12_more3_119
  exact zpc_bu (w_fX12_push h) (fun σ1 hσ1 => zpc_some hσ1)
theorem w_fX12_more3_200 {σ0 : zSt} {σ : zSt} {s0 : Int32} (h : zKeM σ0 σ) : zpc (fX12_more3_200 σ s0) (fun r => zKeM σ0 (r.1)) := by
  unfold fX12_more3_200
  exact zpc_some h
theorem w_fX12_more3_197 {σ0 : zSt} {σ : zSt} {s0 : Int32} (h : zKeM σ0 σ) : zpc (fX12_more3_197 σ s0) (fun r => zKeM σ0 (r.1)) := by
  unfold fX12_more3_197
  exact zpc_bi (w_fX12_prefixed h) (fun σ2 v3 hσ2 => w_fX12_more3_200 hσ2)
theorem w_fX12_more3 {σ0 : zSt} {σ : zSt} {x1 : Int32} {x2 : Int32} (h : zKeM σ0 σ) : zpc (fX12_more3 σ x1 x2) (fun r => zKeM σ0 (r.1)) := by
  unfold fX12_more3
  exact zpc_bv (fun v4 _ => zpc_if (fun _ => zpc_bi (w_fX12_nextWord h) (fun σ22 v23 hσ22 => zpc_ck (zpc_bs (zKeM.wi hσ22 (by decide)) (fun σ24 hσ24 => zpc_bi (w_fX12_cc hσ24) (fun σ25 v26 hσ25 => zpc_if (fun _ => zpc_some hσ25) (fun _ => zpc_ck (zpc_bu (w_fX12_push hσ25) (fun σ27 hσ27 => zpc_ck (zpc_ck (zpc_bs (zKeM.wi hσ27 (by decide)) (fun σ28 hσ28 => zpc_some hσ28))))))))))) (fun _ => zpc_if (fun _ => zpc_bi (w_fX12_next h) (fun σ19 v20 hσ19 => zpc_bu (w_fX12_does hσ19) (fun σ21 hσ21 => zpc_some hσ21))) (fun _ => zpc_if (fun _ => zpc_bu (w_fX12_call h) (fun σ18 hσ18 => zpc_some hσ18)) (fun _ => zpc_ck (zpc_if (fun _ => zpc_if (fun _ => zpc_bi (w_fX12_pair h) (fun σ16 v17 hσ16 => w_fX12_more3_119 hσ16)) (fun _ => zpc_bi (w_fX12_rp h) (fun σ14 v15 hσ14 => w_fX12_more3_119 hσ14))) (fun _ => zpc_if (fun _ => zpc_bi (w_fX12_nextWord h) (fun σ9 v10 hσ9 => zpc_ck (zpc_bs (zKeM.wi hσ9 (by decide)) (fun σ11 hσ11 => zpc_ck (zpc_bu (w_fX12_push hσ11) (fun σ12 hσ12 => zpc_ck (zpc_ck (zpc_bs (zKeM.wi hσ12 (by decide)) (fun σ13 hσ13 => zpc_some hσ13))))))))) (fun _ => zpc_if (fun _ => zpc_bi (w_fX12_fetch h) (fun σ5 v6 hσ5 => zpc_bi (w_fX12_more hσ5) (fun σ7 v8 hσ7 => w_fX12_more3_200 hσ7))) (fun _ => zpc_if (fun _ => w_fX12_more3_197 h) (fun _ => w_fX12_more3_197 h)))))))))
theorem w_fX12_plain_160 {σ0 : zSt} {σ : zSt} {s0 : Int32} (h : zKeM σ0 σ) : zpc (fX12_plain_160 σ s0) (fun r => zKeM σ0 (r.1)) := by
  unfold fX12_plain_160
  exact zpc_some h
theorem w_fX12_plain_139 {σ0 : zSt} {σ : zSt} {s0 : Int32} (h : zKeM σ0 σ) : zpc (fX12_plain_139 σ s0) (fun r => zKeM σ0 (r.1)) := by
  unfold fX12_plain_139
  exact zpc_some h
theorem w_fX12_plain_116 {σ0 : zSt} {σ : zSt} {s0 : Int32} (h : zKeM σ0 σ) : zpc (fX12_plain_116 σ s0) (fun r => zKeM σ0 (r.1)) := by
  unfold fX12_plain_116
  exact zpc_some h
theorem w_fX12_plain_115 {σ0 : zSt} {σ : zSt} (h : zKeM σ0 σ) : zpc (fX12_plain_115 σ) (fun r => zKeM σ0 (r.1)) := by
  unfold fX12_plain_115
  exact w_fX12_plain_116 h
theorem w_fX12_plain_110 {σ0 : zSt} {σ : zSt} (h : zKeM σ0 σ) : zpc (fX12_plain_110 σ) (fun r => zKeM σ0 (r.1)) := by
  unfold fX12_plain_110
  exact w_fX12_plain_116 h
theorem w_fX12_plain_92 {σ0 : zSt} {σ : zSt} {x1 : Int32} {x2 : Int32} {x3 : Int32} (h : zKeM σ0 σ) : zpc (fX12_plain_92 σ x1 x2 x3) (fun r => zKeM σ0 (r.1)) := by
  unfold fX12_plain_92
  exact zpc_if (fun _ => w_fX12_plain_115 h) (fun _ => zpc_if (fun _ => w_fX12_plain_110 h) (fun _ => zpc_if (fun _ => w_fX12_plain_110 h) (fun _ => w_fX12_plain_115 h)))
theorem w_fX12_plain_64 {σ0 : zSt} {σ : zSt} {s0 : Int32} (h : zKeM σ0 σ) : zpc (fX12_plain_64 σ s0) (fun r => zKeM σ0 (r.1)) := by
  unfold fX12_plain_64
  exact zpc_some h
theorem w_fX12_plain {σ0 : zSt} {σ : zSt} {x1 : Int32} (h : zKeM σ0 σ) : zpc (fX12_plain σ x1) (fun r => zKeM σ0 (r.1)) := by
  unfold fX12_plain
  exact zpc_bv (fun v1 _ => zpc_bv (fun v2 _ => zpc_if (fun _ => zpc_if (fun _ => zpc_bi (w_fX12_singles h) (fun σ3 v4 hσ3 => w_fX12_plain_64 hσ3)) (fun _ => zpc_bi (w_fX12_zero h) (fun σ5 v6 hσ5 => w_fX12_plain_64 hσ5))) (fun _ => zpc_if (fun _ => zpc_if (fun _ => zpc_ck (zpc_bs (zKeM.wi h (by decide)) (fun σ10 hσ10 => w_fX12_plain_92 hσ10))) (fun _ => zpc_bi (w_fX12_r h) (fun σ7 v8 hσ7 => zpc_bu (w_fX12_rTo hσ7) (fun σ9 hσ9 => w_fX12_plain_92 hσ9)))) (fun _ => zpc_if (fun _ => zpc_bi (w_fX12_r h) (fun σ11 v12 hσ11 => zpc_bu (w_fX12_does hσ11) (fun σ13 hσ13 => zpc_if (fun _ => w_fX12_plain_139 hσ13) (fun _ => w_fX12_plain_139 hσ13)))) (fun _ => zpc_if (fun _ => zpc_bi (w_fX12_more3 h) (fun σ14 v15 hσ14 => w_fX12_plain_160 hσ14)) (fun _ => zpc_bi (w_fX12_three h) (fun σ16 v17 hσ16 => w_fX12_plain_160 hσ16)))))))
theorem w_fX12_instruction {σ0 : zSt} {σ : zSt} (h : zKeM σ0 σ) : zpc (fX12_instruction σ) (fun r => zKeM σ0 (r.1)) := by
  unfold fX12_instruction
  exact zpc_bs (zKeM.w0 h (by decide)) (fun σ1 hσ1 => zpc_ck (zpc_bs (zKeM.w0 hσ1 (by decide)) (fun σ2 hσ2 => zpc_bi (w_fX12_fetch hσ2) (fun σ3 v4 hσ3 => zpc_bi (w_fX12_plain hσ3) (fun σ5 v6 hσ5 => zpc_some hσ5)))))
theorem w_fX12_answers {σ0 : zSt} {σ : zSt} (h : zKeM σ0 σ) : zpc (fX12_answers σ) (fun r => zKeM σ0 (r)) := by
  unfold fX12_answers
  exact zpc_bu (w_fX12_grows h) (fun σ1 hσ1 => zpc_ck (zpc_bs (zKeM.wi hσ1 (by decide)) (fun σ2 hσ2 => zpc_some hσ2)))
theorem w_fX12_reg {σ0 : zSt} {σ : zSt} {x1 : Int32} (h : zKeM σ0 σ) : zpc (fX12_reg σ x1) (fun r => zKeM σ0 (r.1)) := by
  unfold fX12_reg
  exact zpc_ck (zpc_some h)
theorem w_fX12_tileDot_6_body {σ0 : zSt} {k6 : zSt → Int32 → Int32 → Int32 → Int32 → Int32 → Option (zSt × Int32)} (hk6 : ∀ (y0 : zSt) (y1 : Int32) (y2 : Int32) (y3 : Int32) (y4 : Int32) (y5 : Int32), zKeM σ0 y0 → zpc (k6 y0 y1 y2 y3 y4 y5) (fun r => zKeM σ0 (r.1))) {σ : zSt} {x1 : Int32} {x2 : Int32} {x3 : Int32} {x4 : Int32} {x5 : Int32} (h : zKeM σ0 σ) : zpc (fX12_tileDot_6_body k6 σ x1 x2 x3 x4 x5) (fun r => zKeM σ0 (r.1)) := by
  unfold fX12_tileDot_6_body
  exact zpc_if (fun _ => zpc_some h) (fun _ => zpc_bi (w_fX12_video8 h) (fun σ1 v2 hσ1 => zpc_bv (fun v3 _ => zpc_bv (fun v4 _ => hk6 _ _ _ _ _ _ hσ1))))
theorem w_fX12_tileDot_6 {σ0 : zSt} : ∀ (n : Nat) (y0 : zSt) (y1 : Int32) (y2 : Int32) (y3 : Int32) (y4 : Int32) (y5 : Int32), zKeM σ0 y0 → zpc (fX12_tileDot_6 n y0 y1 y2 y3 y4 y5) (fun r => zKeM σ0 (r.1)) := by
  intro n
  induction n with
  | zero => intro y0 y1 y2 y3 y4 y5 h; exact zpc_none
  | succ n ih => intro y0 y1 y2 y3 y4 y5 h; exact w_fX12_tileDot_6_body ih h
theorem w_fX12_tileDot {σ0 : zSt} {σ : zSt} {x1 : Int32} {x2 : Int32} {x3 : Int32} (h : zKeM σ0 σ) : zpc (fX12_tileDot σ x1 x2 x3) (fun r => zKeM σ0 (r.1)) := by
  unfold fX12_tileDot
  exact w_fX12_tileDot_6 _ _ _ _ _ _ _ h
theorem w_fX12_tile_302 {σ0 : zSt} {σ : zSt} {s0 : Int32} {s1 : Int32} (h : zKeM σ0 σ) : zpc (fX12_tile_302 σ s0 s1) (fun r => zKeM σ0 (r)) := by
  unfold fX12_tile_302
  exact zpc_ck (zpc_bs (zKeM.wi h (by decide)) (fun σ1 hσ1 => zpc_some hσ1))
theorem w_fX12_tile_301 {σ0 : zSt} {σ : zSt} {s0 : Int32} (h : zKeM σ0 σ) : zpc (fX12_tile_301 σ s0) (fun r => zKeM σ0 (r)) := by
  unfold fX12_tile_301
  exact w_fX12_tile_302 h
theorem w_fX12_tile_276 {σ0 : zSt} {σ : zSt} {x2 : Int32} {x9 : Int32} {x12 : Int32} {s0 : Int32} {s1 : Int32} {s2 : Int32} (h : zKeM σ0 σ) : zpc (fX12_tile_276 σ x2 x9 x12 s0 s1 s2) (fun r => zKeM σ0 (r)) := by
  unfold fX12_tile_276
  exact zpc_ck (zpc_bs (zKeM.wi h (by decide)) (fun σ2 hσ2 => zpc_if (fun _ => w_fX12_tile_301 hσ2) (fun _ => zpc_if (fun _ => w_fX12_tile_301 hσ2) (fun _ => w_fX12_tile_302 hσ2))))
theorem w_fX12_tile_236 {σ0 : zSt} {σ : zSt} {x2 : Int32} {x9 : Int32} {x10 : Int32} {s0 : Int32} (h : zKeM σ0 σ) : zpc (fX12_tile_236 σ x2 x9 x10 s0) (fun r => zKeM σ0 (r)) := by
  unfold fX12_tile_236
  exact zpc_bi (w_fX12_tileDot h) (fun σ3 v4 hσ3 => zpc_if (fun _ => w_fX12_tile_276 hσ3) (fun _ => w_fX12_tile_276 hσ3))
theorem w_fX12_tile_209 {σ0 : zSt} {σ : zSt} {x2 : Int32} {x7 : Int32} {x9 : Int32} {s0 : Int32} (h : zKeM σ0 σ) : zpc (fX12_tile_209 σ x2 x7 x9 s0) (fun r => zKeM σ0 (r)) := by
  unfold fX12_tile_209
  exact zpc_if (fun _ => zpc_ck (w_fX12_tile_236 h)) (fun _ => zpc_ck (w_fX12_tile_236 h))
theorem w_fX12_tile_141 {σ0 : zSt} {σ : zSt} {x2 : Int32} {x4 : Int32} {x6 : Int32} {s0 : Int32} (h : zKeM σ0 σ) : zpc (fX12_tile_141 σ x2 x4 x6 s0) (fun r => zKeM σ0 (r)) := by
  unfold fX12_tile_141
  exact zpc_ck (zpc_ck (zpc_bv (fun v5 _ => zpc_bi (w_fX12_video8 h) (fun σ6 v7 hσ6 => zpc_bi (w_fX12_video8 hσ6) (fun σ8 v9 hσ8 => zpc_bv (fun v10 _ => zpc_if (fun _ => zpc_ck (w_fX12_tile_209 hσ8)) (fun _ => zpc_ck (w_fX12_tile_209 hσ8))))))))
theorem w_fX12_tile_140 {σ0 : zSt} {σ : zSt} {x2 : Int32} {x4 : Int32} {x6 : Int32} {s0 : Int32} {s1 : Int32} (h : zKeM σ0 σ) : zpc (fX12_tile_140 σ x2 x4 x6 s0 s1) (fun r => zKeM σ0 (r)) := by
  unfold fX12_tile_140
  exact zpc_ck (w_fX12_tile_141 h)
theorem w_fX12_tile_118 {σ0 : zSt} {σ : zSt} {x1 : Int32} {x2 : Int32} {x3 : Int32} {x4 : Int32} {x6 : Int32} (h : zKeM σ0 σ) : zpc (fX12_tile_118 σ x1 x2 x3 x4 x6) (fun r => zKeM σ0 (r)) := by
  unfold fX12_tile_118
  exact zpc_ck (zpc_if (fun _ => w_fX12_tile_140 h) (fun _ => w_fX12_tile_140 h))
theorem w_fX12_tile_84 {σ0 : zSt} {σ : zSt} {x1 : Int32} {x2 : Int32} {x3 : Int32} {x4 : Int32} {s0 : Int32} (h : zKeM σ0 σ) : zpc (fX12_tile_84 σ x1 x2 x3 x4 s0) (fun r => zKeM σ0 (r)) := by
  unfold fX12_tile_84
  exact zpc_bv (fun v11 _ => zpc_if (fun _ => w_fX12_tile_118 h) (fun _ => zpc_bi (w_fX12_bit h) (fun σ12 v13 hσ12 => zpc_if (fun _ => w_fX12_tile_141 hσ12) (fun _ => w_fX12_tile_118 hσ12))))
theorem w_fX12_tile_78 {σ0 : zSt} {σ : zSt} {x1 : Int32} {x2 : Int32} {x3 : Int32} {x4 : Int32} (h : zKeM σ0 σ) : zpc (fX12_tile_78 σ x1 x2 x3 x4) (fun r => zKeM σ0 (r)) := by
  unfold fX12_tile_78
  exact zpc_bi (w_fX12_reg h) (fun σ14 v15 hσ14 => w_fX12_tile_84 hσ14)
theorem w_fX12_tile_55 {σ0 : zSt} {σ : zSt} {x1 : Int32} {x2 : Int32} {x3 : Int32} {s0 : Int32} (h : zKeM σ0 σ) : zpc (fX12_tile_55 σ x1 x2 x3 s0) (fun r => zKeM σ0 (r)) := by
  unfold fX12_tile_55
  exact zpc_if (fun _ => w_fX12_tile_78 h) (fun _ => zpc_bi (w_fX12_bit h) (fun σ16 v17 hσ16 => zpc_if (fun _ => w_fX12_tile_84 hσ16) (fun _ => w_fX12_tile_78 hσ16)))
theorem w_fX12_tile_15 {σ0 : zSt} {σ : zSt} {x1 : Int32} {x2 : Int32} {s0 : Int32} (h : zKeM σ0 σ) : zpc (fX12_tile_15 σ x1 x2 s0) (fun r => zKeM σ0 (r)) := by
  unfold fX12_tile_15
  exact zpc_if (fun _ => zpc_bi (w_fX12_reg h) (fun σ18 v19 hσ18 => zpc_ck (zpc_ck (w_fX12_tile_55 hσ18)))) (fun _ => zpc_bi (w_fX12_reg h) (fun σ20 v21 hσ20 => zpc_ck (w_fX12_tile_55 hσ20)))
theorem w_fX12_tile {σ0 : zSt} {σ : zSt} {x1 : Int32} {x2 : Int32} (h : zKeM σ0 σ) : zpc (fX12_tile σ x1 x2) (fun r => zKeM σ0 (r)) := by
  unfold fX12_tile
  exact zpc_bi (w_fX12_height h) (fun σ22 v23 hσ22 => zpc_if (fun _ => w_fX12_tile_15 hσ22) (fun _ => w_fX12_tile_15 hσ22))
theorem w_fX12_sprites_349 {σ0 : zSt} {k73 : zSt → Int32 → Int32 → Int32 → Int32 → Int32 → Int32 → Int32 → Option (zSt)} (hk73 : ∀ (y0 : zSt) (y1 : Int32) (y2 : Int32) (y3 : Int32) (y4 : Int32) (y5 : Int32) (y6 : Int32) (y7 : Int32), zKeM σ0 y0 → zpc (k73 y0 y1 y2 y3 y4 y5 y6 y7) (fun r => zKeM σ0 (r))) {σ : zSt} {x1 : Int32} {x2 : Int32} {x3 : Int32} {x4 : Int32} {x5 : Int32} {x6 : Int32} {x7 : Int32} (h : zKeM σ0 σ) : zpc (fX12_sprites_349 k73 σ x1 x2 x3 x4 x5 x6 x7) (fun r => zKeM σ0 (r)) := by
  unfold fX12_sprites_349
  exact zpc_bv (fun v1 _ => hk73 _ _ _ _ _ _ _ _ h)
theorem w_fX12_sprites_343 {σ0 : zSt} {k73 : zSt → Int32 → Int32 → Int32 → Int32 → Int32 → Int32 → Int32 → Option (zSt)} (hk73 : ∀ (y0 : zSt) (y1 : Int32) (y2 : Int32) (y3 : Int32) (y4 : Int32) (y5 : Int32) (y6 : Int32) (y7 : Int32), zKeM σ0 y0 → zpc (k73 y0 y1 y2 y3 y4 y5 y6 y7) (fun r => zKeM σ0 (r))) {k250 : zSt → Int32 → Int32 → Int32 → Int32 → Int32 → Int32 → Int32 → Int32 → Int32 → Int32 → Int32 → Option (zSt)} (hk250 : ∀ (y0 : zSt) (y1 : Int32) (y2 : Int32) (y3 : Int32) (y4 : Int32) (y5 : Int32) (y6 : Int32) (y7 : Int32) (y8 : Int32) (y9 : Int32) (y10 : Int32) (y11 : Int32), zKeM σ0 y0 → zpc (k250 y0 y1 y2 y3 y4 y5 y6 y7 y8 y9 y10 y11) (fun r => zKeM σ0 (r))) {σ : zSt} {x1 : Int32} {x2 : Int32} {x3 : Int32} {x4 : Int32} {x5 : Int32} {x6 : Int32} {x7 : Int32} {x9 : Int32} {x10 : Int32} {x11 : Int32} {x12 : Int32} (h : zKeM σ0 σ) : zpc (fX12_sprites_343 k73 k250 σ x1 x2 x3 x4 x5 x6 x7 x9 x10 x11 x12) (fun r => zKeM σ0 (r)) := by
  unfold fX12_sprites_343
  exact zpc_bv (fun v2 _ => hk250 _ _ _ _ _ _ _ _ _ _ _ _ h)
theorem w_fX12_sprites_250_body {σ0 : zSt} {k73 : zSt → Int32 → Int32 → Int32 → Int32 → Int32 → Int32 → Int32 → Option (zSt)} (hk73 : ∀ (y0 : zSt) (y1 : Int32) (y2 : Int32) (y3 : Int32) (y4 : Int32) (y5 : Int32) (y6 : Int32) (y7 : Int32), zKeM σ0 y0 → zpc (k73 y0 y1 y2 y3 y4 y5 y6 y7) (fun r => zKeM σ0 (r))) {k250 : zSt → Int32 → Int32 → Int32 → Int32 → Int32 → Int32 → Int32 → Int32 → Int32 → Int32 → Int32 → Option (zSt)} (hk250 : ∀ (y0 : zSt) (y1 : Int32) (y2 : Int32) (y3 : Int32) (y4 : Int32) (y5 : Int32) (y6 : Int32) (y7 : Int32) (y8 : Int32) (y9 : Int32) (y10 : Int32) (y11 : Int32), zKeM σ0 y0 → zpc (k250 y0 y1 y2 y3 y4 y5 y6 y7 y8 y9 y10 y11) (fun r => zKeM σ0 (r))) {σ : zSt} {x1 : Int32} {x2 : Int32} {x3 : Int32} {x4 : Int32} {x5 : Int32} {x6 : Int32} {x7 : Int32} {x9 : Int32} {x10 : Int32} {x11 : Int32} {x12 : Int32} (h : zKeM σ0 σ) : zpc (fX12_sprites_250_body k73 k250 σ x1 x2 x3 x4 x5 x6 x7 x9 x10 x11 x12) (fun r => zKeM σ0 (r)) := by
  unfold fX12_sprites_250_body
  exact zpc_if (fun _ => w_fX12_sprites_349 hk73 h) (fun _ => zpc_ck (zpc_ck (zpc_ck (zpc_bi (w_fX12_tileDot h) (fun σ3 v4 hσ3 => zpc_bv (fun v5 _ => zpc_if (fun _ => w_fX12_sprites_343 hk73 hk250 hσ3) (fun _ => zpc_if (fun _ => w_fX12_sprites_343 hk73 hk250 hσ3) (fun _ => zpc_if (fun _ => zpc_ck (zpc_if (fun _ => zpc_ck (zpc_bs (zKeM.wi hσ3 (by decide)) (fun σ6 hσ6 => w_fX12_sprites_343 hk73 hk250 hσ6))) (fun _ => zpc_ck (zpc_ck (zpc_bs (zKeM.wi hσ3 (by decide)) (fun σ7 hσ7 => w_fX12_sprites_343 hk73 hk250 hσ7)))))) (fun _ => w_fX12_sprites_343 hk73 hk250 hσ3)))))))))
theorem w_fX12_sprites_250 {σ0 : zSt} {k73 : zSt → Int32 → Int32 → Int32 → Int32 → Int32 → Int32 → Int32 → Option (zSt)} (hk73 : ∀ (y0 : zSt) (y1 : Int32) (y2 : Int32) (y3 : Int32) (y4 : Int32) (y5 : Int32) (y6 : Int32) (y7 : Int32), zKeM σ0 y0 → zpc (k73 y0 y1 y2 y3 y4 y5 y6 y7) (fun r => zKeM σ0 (r))) : ∀ (n : Nat) (y0 : zSt) (y1 : Int32) (y2 : Int32) (y3 : Int32) (y4 : Int32) (y5 : Int32) (y6 : Int32) (y7 : Int32) (y8 : Int32) (y9 : Int32) (y10 : Int32) (y11 : Int32), zKeM σ0 y0 → zpc (fX12_sprites_250 k73 n y0 y1 y2 y3 y4 y5 y6 y7 y8 y9 y10 y11) (fun r => zKeM σ0 (r)) := by
  intro n
  induction n with
  | zero => intro y0 y1 y2 y3 y4 y5 y6 y7 y8 y9 y10 y11 h; exact zpc_none
  | succ n ih => intro y0 y1 y2 y3 y4 y5 y6 y7 y8 y9 y10 y11 h; exact w_fX12_sprites_250_body hk73 ih h
theorem w_fX12_sprites_244 {σ0 : zSt} {k73 : zSt → Int32 → Int32 → Int32 → Int32 → Int32 → Int32 → Int32 → Option (zSt)} (hk73 : ∀ (y0 : zSt) (y1 : Int32) (y2 : Int32) (y3 : Int32) (y4 : Int32) (y5 : Int32) (y6 : Int32) (y7 : Int32), zKeM σ0 y0 → zpc (k73 y0 y1 y2 y3 y4 y5 y6 y7) (fun r => zKeM σ0 (r))) {σ : zSt} {x1 : Int32} {x2 : Int32} {x3 : Int32} {x4 : Int32} {x5 : Int32} {x6 : Int32} {x7 : Int32} {x9 : Int32} {x10 : Int32} {s0 : Int32} {s1 : Int32} (h : zKeM σ0 σ) : zpc (fX12_sprites_244 k73 σ x1 x2 x3 x4 x5 x6 x7 x9 x10 s0 s1) (fun r => zKeM σ0 (r)) := by
  unfold fX12_sprites_244
  exact zpc_bv (fun v8 _ => w_fX12_sprites_250 hk73 _ _ _ _ _ _ _ _ _ _ _ _ _ h)
theorem w_fX12_sprites_212 {σ0 : zSt} {k73 : zSt → Int32 → Int32 → Int32 → Int32 → Int32 → Int32 → Int32 → Option (zSt)} (hk73 : ∀ (y0 : zSt) (y1 : Int32) (y2 : Int32) (y3 : Int32) (y4 : Int32) (y5 : Int32) (y6 : Int32) (y7 : Int32), zKeM σ0 y0 → zpc (k73 y0 y1 y2 y3 y4 y5 y6 y7) (fun r => zKeM σ0 (r))) {σ : zSt} {x1 : Int32} {x2 : Int32} {x3 : Int32} {x4 : Int32} {x5 : Int32} {x6 : Int32} {x7 : Int32} {x9 : Int32} {s0 : Int32} (h : zKeM σ0 σ) : zpc (fX12_sprites_212 k73 σ x1 x2 x3 x4 x5 x6 x7 x9 s0) (fun r => zKeM σ0 (r)) := by
  unfold fX12_sprites_212
  exact zpc_bi (w_fX12_video8 h) (fun σ9 v10 hσ9 => zpc_bi (w_fX12_bit hσ9) (fun σ11 v12 hσ11 => zpc_if (fun _ => w_fX12_sprites_244 hk73 hσ11) (fun _ => w_fX12_sprites_244 hk73 hσ11)))
theorem w_fX12_sprites_183 {σ0 : zSt} {k73 : zSt → Int32 → Int32 → Int32 → Int32 → Int32 → Int32 → Int32 → Option (zSt)} (hk73 : ∀ (y0 : zSt) (y1 : Int32) (y2 : Int32) (y3 : Int32) (y4 : Int32) (y5 : Int32) (y6 : Int32) (y7 : Int32), zKeM σ0 y0 → zpc (k73 y0 y1 y2 y3 y4 y5 y6 y7) (fun r => zKeM σ0 (r))) {σ : zSt} {x1 : Int32} {x2 : Int32} {x3 : Int32} {x4 : Int32} {x5 : Int32} {x6 : Int32} {x7 : Int32} {x9 : Int32} {s0 : Int32} {s1 : Int32} (h : zKeM σ0 σ) : zpc (fX12_sprites_183 k73 σ x1 x2 x3 x4 x5 x6 x7 x9 s0 s1) (fun r => zKeM σ0 (r)) := by
  unfold fX12_sprites_183
  exact zpc_bv (fun v13 _ => zpc_if (fun _ => zpc_ck (zpc_ck (w_fX12_sprites_212 hk73 h))) (fun _ => w_fX12_sprites_212 hk73 h))
theorem w_fX12_sprites_104 {σ0 : zSt} {k73 : zSt → Int32 → Int32 → Int32 → Int32 → Int32 → Int32 → Int32 → Option (zSt)} (hk73 : ∀ (y0 : zSt) (y1 : Int32) (y2 : Int32) (y3 : Int32) (y4 : Int32) (y5 : Int32) (y6 : Int32) (y7 : Int32), zKeM σ0 y0 → zpc (k73 y0 y1 y2 y3 y4 y5 y6 y7) (fun r => zKeM σ0 (r))) {σ : zSt} {x1 : Int32} {x2 : Int32} {x3 : Int32} {x4 : Int32} {x5 : Int32} {x6 : Int32} {x7 : Int32} {x8 : Int32} (h : zKeM σ0 σ) : zpc (fX12_sprites_104 k73 σ x1 x2 x3 x4 x5 x6 x7 x8) (fun r => zKeM σ0 (r)) := by
  unfold fX12_sprites_104
  exact zpc_bv (fun v14 _ => zpc_if (fun _ => zpc_if (fun _ => zpc_ck (zpc_ck (zpc_bs (zKeM.wi h (by decide)) (fun σ20 hσ20 => zpc_some hσ20)))) (fun _ => zpc_bv (fun v15 _ => zpc_bi (w_fX12_video8 h) (fun σ16 v17 hσ16 => zpc_bi (w_fX12_bit hσ16) (fun σ18 v19 hσ18 => zpc_if (fun _ => w_fX12_sprites_183 hk73 hσ18) (fun _ => w_fX12_sprites_183 hk73 hσ18)))))) (fun _ => w_fX12_sprites_349 hk73 h))
theorem w_fX12_sprites_73_body {σ0 : zSt} {k73 : zSt → Int32 → Int32 → Int32 → Int32 → Int32 → Int32 → Int32 → Option (zSt)} (hk73 : ∀ (y0 : zSt) (y1 : Int32) (y2 : Int32) (y3 : Int32) (y4 : Int32) (y5 : Int32) (y6 : Int32) (y7 : Int32), zKeM σ0 y0 → zpc (k73 y0 y1 y2 y3 y4 y5 y6 y7) (fun r => zKeM σ0 (r))) {σ : zSt} {x1 : Int32} {x2 : Int32} {x3 : Int32} {x4 : Int32} {x5 : Int32} {x6 : Int32} {x7 : Int32} (h : zKeM σ0 σ) : zpc (fX12_sprites_73_body k73 σ x1 x2 x3 x4 x5 x6 x7) (fun r => zKeM σ0 (r)) := by
  unfold fX12_sprites_73_body
  exact zpc_if (fun _ => zpc_some h) (fun _ => zpc_bi (w_fX12_video8 h) (fun σ21 v22 hσ21 => zpc_if (fun _ => w_fX12_sprites_104 hk73 hσ21) (fun _ => zpc_if (fun _ => zpc_some hσ21) (fun _ => w_fX12_sprites_104 hk73 hσ21))))
theorem w_fX12_sprites_73 {σ0 : zSt} : ∀ (n : Nat) (y0 : zSt) (y1 : Int32) (y2 : Int32) (y3 : Int32) (y4 : Int32) (y5 : Int32) (y6 : Int32) (y7 : Int32), zKeM σ0 y0 → zpc (fX12_sprites_73 n y0 y1 y2 y3 y4 y5 y6 y7) (fun r => zKeM σ0 (r)) := by
  intro n
  induction n with
  | zero => intro y0 y1 y2 y3 y4 y5 y6 y7 h; exact zpc_none
  | succ n ih => intro y0 y1 y2 y3 y4 y5 y6 y7 h; exact w_fX12_sprites_73_body ih h
theorem w_fX12_sprites_68 {σ0 : zSt} {σ : zSt} {x1 : Int32} {x2 : Int32} {x3 : Int32} {x4 : Int32} {x5 : Int32} {s0 : Int32} (h : zKeM σ0 σ) : zpc (fX12_sprites_68 σ x1 x2 x3 x4 x5 s0) (fun r => zKeM σ0 (r)) := by
  unfold fX12_sprites_68
  exact w_fX12_sprites_73 _ _ _ _ _ _ _ _ _ h
theorem w_fX12_sprites_48 {σ0 : zSt} {σ : zSt} {x1 : Int32} {x2 : Int32} {x3 : Int32} {s0 : Int32} (h : zKeM σ0 σ) : zpc (fX12_sprites_48 σ x1 x2 x3 s0) (fun r => zKeM σ0 (r)) := by
  unfold fX12_sprites_48
  exact zpc_bi (w_fX12_height h) (fun σ23 v24 hσ23 => zpc_if (fun _ => w_fX12_sprites_68 hσ23) (fun _ => w_fX12_sprites_68 hσ23))
theorem w_fX12_sprites_30 {σ0 : zSt} {σ : zSt} {x1 : Int32} {x2 : Int32} {s0 : Int32} (h : zKeM σ0 σ) : zpc (fX12_sprites_30 σ x1 x2 s0) (fun r => zKeM σ0 (r)) := by
  unfold fX12_sprites_30
  exact zpc_bi (w_fX12_bit h) (fun σ25 v26 hσ25 => zpc_if (fun _ => w_fX12_sprites_48 hσ25) (fun _ => w_fX12_sprites_48 hσ25))
theorem w_fX12_sprites {σ0 : zSt} {σ : zSt} {x1 : Int32} (h : zKeM σ0 σ) : zpc (fX12_sprites σ x1) (fun r => zKeM σ0 (r)) := by
  unfold fX12_sprites
  exact zpc_bi (w_fX12_reg h) (fun σ27 v28 hσ27 => zpc_ck (zpc_ck (zpc_bv (fun v29 _ => zpc_bi (w_fX12_bit hσ27) (fun σ30 v31 hσ30 => zpc_if (fun _ => w_fX12_sprites_30 hσ30) (fun _ => w_fX12_sprites_30 hσ30))))))
theorem w_fX12_colour_62 {σ0 : zSt} {σ : zSt} {s0 : Int32} (h : zKeM σ0 σ) : zpc (fX12_colour_62 σ s0) (fun r => zKeM σ0 (r.1)) := by
  unfold fX12_colour_62
  exact zpc_some h
theorem w_fX12_colour_252 {σ0 : zSt} {σ : zSt} {s0 : Int32} (h : zKeM σ0 σ) : zpc (fX12_colour_252 σ s0) (fun r => zKeM σ0 (r.1)) := by
  unfold fX12_colour_252
  exact zpc_some h
theorem w_fX12_colour_217 {σ0 : zSt} {σ : zSt} {x2 : Int32} (h : zKeM σ0 σ) : zpc (fX12_colour_217 σ x2) (fun r => zKeM σ0 (r.1)) := by
  unfold fX12_colour_217
  exact zpc_if (fun _ => zpc_ck (zpc_ck (zpc_ck (zpc_ck (w_fX12_colour_252 h))))) (fun _ => w_fX12_colour_252 h)
theorem w_fX12_colour {σ0 : zSt} {σ : zSt} {x1 : Int32} (h : zKeM σ0 σ) : zpc (fX12_colour σ x1) (fun r => zKeM σ0 (r.1)) := by
  unfold fX12_colour
  exact zpc_bi (w_fX12_mode h) (fun σ1 v2 hσ1 => zpc_if (fun _ => zpc_if (fun _ => zpc_ck (zpc_ck (zpc_ck (w_fX12_colour_62 hσ1)))) (fun _ => zpc_ck (w_fX12_colour_62 hσ1))) (fun _ => zpc_if (fun _ => w_fX12_colour_217 hσ1) (fun _ => zpc_if (fun _ => w_fX12_colour_217 hσ1) (fun _ => zpc_if (fun _ => w_fX12_colour_217 hσ1) (fun _ => zpc_if (fun _ => w_fX12_colour_217 hσ1) (fun _ => zpc_if (fun _ => w_fX12_colour_217 hσ1) (fun _ => zpc_if (fun _ => w_fX12_colour_217 hσ1) (fun _ => zpc_if (fun _ => w_fX12_colour_217 hσ1) (fun _ => zpc_if (fun _ => w_fX12_colour_217 hσ1) (fun _ => zpc_if (fun _ => w_fX12_colour_217 hσ1) (fun _ => zpc_if (fun _ => w_fX12_colour_217 hσ1) (fun _ => zpc_if (fun _ => w_fX12_colour_217 hσ1) (fun _ => zpc_if (fun _ => w_fX12_colour_217 hσ1) (fun _ => zpc_if (fun _ => w_fX12_colour_217 hσ1) (fun _ => zpc_if (fun _ => w_fX12_colour_217 hσ1) (fun _ => w_fX12_colour_217 hσ1))))))))))))))))
theorem w_fX12_old_48 {σ0 : zSt} {σ : zSt} (h : zKeM σ0 σ) : zpc (fX12_old_48 σ) (fun r => zKeM σ0 (r.1)) := by
  unfold fX12_old_48
  exact zpc_some h
theorem w_fX12_old_131 {σ0 : zSt} {σ : zSt} {s0 : Int32} (h : zKeM σ0 σ) : zpc (fX12_old_131 σ s0) (fun r => zKeM σ0 (r.1)) := by
  unfold fX12_old_131
  exact zpc_some h
theorem w_fX12_old_209 {σ0 : zSt} {σ : zSt} {s0 : Int32} (h : zKeM σ0 σ) : zpc (fX12_old_209 σ s0) (fun r => zKeM σ0 (r.1)) := by
  unfold fX12_old_209
  exact zpc_some h
theorem w_fX12_old_395 {σ0 : zSt} {σ : zSt} {s0 : Int32} (h : zKeM σ0 σ) : zpc (fX12_old_395 σ s0) (fun r => zKeM σ0 (r.1)) := by
  unfold fX12_old_395
  exact zpc_some h
theorem w_fX12_old_367 {σ0 : zSt} {σ : zSt} {x2 : Int32} {x6 : Int32} {x7 : Int32} (h : zKeM σ0 σ) : zpc (fX12_old_367 σ x2 x6 x7) (fun r => zKeM σ0 (r.1)) := by
  unfold fX12_old_367
  exact zpc_ck (zpc_if (fun _ => w_fX12_old_395 h) (fun _ => w_fX12_old_395 h))
theorem w_fX12_old {σ0 : zSt} {σ : zSt} {x1 : Int32} {x2 : Int32} (h : zKeM σ0 σ) : zpc (fX12_old σ x1 x2) (fun r => zKeM σ0 (r.1)) := by
  unfold fX12_old
  exact zpc_bi (w_fX12_reg h) (fun σ1 v2 hσ1 => zpc_ck (zpc_bv (fun v3 _ => zpc_bi (w_fX12_reg hσ1) (fun σ4 v5 hσ4 => zpc_ck (zpc_bv (fun v6 _ => zpc_bi (w_fX12_mode hσ4) (fun σ7 v8 hσ7 => zpc_if (fun _ => zpc_if (fun _ => w_fX12_old_48 hσ7) (fun _ => zpc_if (fun _ => zpc_ck (zpc_ck (zpc_bi (w_fX12_video8 hσ7) (fun σ38 v39 hσ38 => zpc_ck (zpc_bi (w_fX12_video8 hσ38) (fun σ40 v41 hσ40 => zpc_ck (zpc_bv (fun v42 _ => zpc_if (fun _ => zpc_bi (w_fX12_reg hσ40) (fun σ45 v46 hσ45 => w_fX12_old_131 hσ45)) (fun _ => zpc_bi (w_fX12_reg hσ40) (fun σ43 v44 hσ43 => w_fX12_old_131 hσ43)))))))))) (fun _ => w_fX12_old_48 hσ7))) (fun _ => zpc_ck (zpc_ck (zpc_bi (w_fX12_video8 hσ7) (fun σ9 v10 hσ9 => zpc_bi (w_fX12_mode hσ9) (fun σ11 v12 hσ11 => zpc_if (fun _ => zpc_ck (zpc_ck (zpc_ck (zpc_ck (zpc_bi (w_fX12_video8 hσ11) (fun σ36 v37 hσ36 => zpc_ck (zpc_if (fun _ => w_fX12_old_209 hσ36) (fun _ => w_fX12_old_209 hσ36)))))))) (fun _ => zpc_bi (w_fX12_mode hσ11) (fun σ13 v14 hσ13 => zpc_if (fun _ => zpc_ck (zpc_bi (w_fX12_video8 hσ13) (fun σ30 v31 hσ30 => zpc_bi (w_fX12_reg hσ30) (fun σ32 v33 hσ32 => zpc_ck (zpc_bi (w_fX12_video8 hσ32) (fun σ34 v35 hσ34 => w_fX12_old_367 hσ34)))))) (fun _ => zpc_ck (zpc_bv (fun v15 _ => zpc_bi (w_fX12_reg hσ13) (fun σ16 v17 hσ16 => zpc_ck (zpc_bv (fun v18 _ => zpc_bi (w_fX12_reg hσ16) (fun σ19 v20 hσ19 => zpc_ck (zpc_bv (fun v21 _ => zpc_bi (w_fX12_bit hσ19) (fun σ22 v23 hσ22 => zpc_ck (zpc_bi (w_fX12_video8 hσ22) (fun σ24 v25 hσ24 => zpc_bi (w_fX12_bit hσ24) (fun σ26 v27 hσ26 => zpc_ck (zpc_bi (w_fX12_video8 hσ26) (fun σ28 v29 hσ28 => w_fX12_old_367 hσ28)))))))))))))))))))))))))))))
theorem w_fX12_oldSprites_388 {σ0 : zSt} {k40 : zSt → Int32 → Int32 → Int32 → Int32 → Int32 → Option (zSt)} (hk40 : ∀ (y0 : zSt) (y1 : Int32) (y2 : Int32) (y3 : Int32) (y4 : Int32) (y5 : Int32), zKeM σ0 y0 → zpc (k40 y0 y1 y2 y3 y4 y5) (fun r => zKeM σ0 (r))) {σ : zSt} {x1 : Int32} {x2 : Int32} {x3 : Int32} {x4 : Int32} {x5 : Int32} (h : zKeM σ0 σ) : zpc (fX12_oldSprites_388 k40 σ x1 x2 x3 x4 x5) (fun r => zKeM σ0 (r)) := by
  unfold fX12_oldSprites_388
  exact zpc_bv (fun v1 _ => hk40 _ _ _ _ _ _ h)
theorem w_fX12_oldSprites_150 {σ0 : zSt} {σ : zSt} (h : zKeM σ0 σ) : zpc (fX12_oldSprites_150 σ) (fun r => zKeM σ0 (r)) := by
  unfold fX12_oldSprites_150
  exact zpc_some h
theorem w_fX12_oldSprites_382 {σ0 : zSt} {k40 : zSt → Int32 → Int32 → Int32 → Int32 → Int32 → Option (zSt)} (hk40 : ∀ (y0 : zSt) (y1 : Int32) (y2 : Int32) (y3 : Int32) (y4 : Int32) (y5 : Int32), zKeM σ0 y0 → zpc (k40 y0 y1 y2 y3 y4 y5) (fun r => zKeM σ0 (r))) {k231 : zSt → Int32 → Int32 → Int32 → Int32 → Int32 → Int32 → Int32 → Int32 → Int32 → Int32 → Option (zSt)} (hk231 : ∀ (y0 : zSt) (y1 : Int32) (y2 : Int32) (y3 : Int32) (y4 : Int32) (y5 : Int32) (y6 : Int32) (y7 : Int32) (y8 : Int32) (y9 : Int32) (y10 : Int32), zKeM σ0 y0 → zpc (k231 y0 y1 y2 y3 y4 y5 y6 y7 y8 y9 y10) (fun r => zKeM σ0 (r))) {σ : zSt} {x1 : Int32} {x2 : Int32} {x3 : Int32} {x4 : Int32} {x5 : Int32} {x8 : Int32} {x9 : Int32} {x10 : Int32} {x11 : Int32} {x12 : Int32} (h : zKeM σ0 σ) : zpc (fX12_oldSprites_382 k40 k231 σ x1 x2 x3 x4 x5 x8 x9 x10 x11 x12) (fun r => zKeM σ0 (r)) := by
  unfold fX12_oldSprites_382
  exact zpc_bv (fun v2 _ => hk231 _ _ _ _ _ _ _ _ _ _ _ h)
theorem w_fX12_oldSprites_350 {σ0 : zSt} {k40 : zSt → Int32 → Int32 → Int32 → Int32 → Int32 → Option (zSt)} (hk40 : ∀ (y0 : zSt) (y1 : Int32) (y2 : Int32) (y3 : Int32) (y4 : Int32) (y5 : Int32), zKeM σ0 y0 → zpc (k40 y0 y1 y2 y3 y4 y5) (fun r => zKeM σ0 (r))) {k231 : zSt → Int32 → Int32 → Int32 → Int32 → Int32 → Int32 → Int32 → Int32 → Int32 → Int32 → Option (zSt)} (hk231 : ∀ (y0 : zSt) (y1 : Int32) (y2 : Int32) (y3 : Int32) (y4 : Int32) (y5 : Int32) (y6 : Int32) (y7 : Int32) (y8 : Int32) (y9 : Int32) (y10 : Int32), zKeM σ0 y0 → zpc (k231 y0 y1 y2 y3 y4 y5 y6 y7 y8 y9 y10) (fun r => zKeM σ0 (r))) {σ : zSt} {x1 : Int32} {x2 : Int32} {x3 : Int32} {x4 : Int32} {x5 : Int32} {x8 : Int32} {x9 : Int32} {x10 : Int32} {x11 : Int32} {x12 : Int32} {x15 : Int32} (h : zKeM σ0 σ) : zpc (fX12_oldSprites_350 k40 k231 σ x1 x2 x3 x4 x5 x8 x9 x10 x11 x12 x15) (fun r => zKeM σ0 (r)) := by
  unfold fX12_oldSprites_350
  exact zpc_ck (zpc_bs (zKeM.wi h (by decide)) (fun σ3 hσ3 => zpc_if (fun _ => w_fX12_oldSprites_382 hk40 hk231 hσ3) (fun _ => zpc_ck (zpc_if (fun _ => zpc_ck (zpc_bs (zKeM.wi hσ3 (by decide)) (fun σ4 hσ4 => w_fX12_oldSprites_382 hk40 hk231 hσ4))) (fun _ => w_fX12_oldSprites_382 hk40 hk231 hσ3)))))
theorem w_fX12_oldSprites_283 {σ0 : zSt} {k40 : zSt → Int32 → Int32 → Int32 → Int32 → Int32 → Option (zSt)} (hk40 : ∀ (y0 : zSt) (y1 : Int32) (y2 : Int32) (y3 : Int32) (y4 : Int32) (y5 : Int32), zKeM σ0 y0 → zpc (k40 y0 y1 y2 y3 y4 y5) (fun r => zKeM σ0 (r))) {k231 : zSt → Int32 → Int32 → Int32 → Int32 → Int32 → Int32 → Int32 → Int32 → Int32 → Int32 → Option (zSt)} (hk231 : ∀ (y0 : zSt) (y1 : Int32) (y2 : Int32) (y3 : Int32) (y4 : Int32) (y5 : Int32) (y6 : Int32) (y7 : Int32) (y8 : Int32) (y9 : Int32) (y10 : Int32), zKeM σ0 y0 → zpc (k231 y0 y1 y2 y3 y4 y5 y6 y7 y8 y9 y10) (fun r => zKeM σ0 (r))) {σ : zSt} {x1 : Int32} {x2 : Int32} {x3 : Int32} {x4 : Int32} {x5 : Int32} {x8 : Int32} {x9 : Int32} {x10 : Int32} {x11 : Int32} {x12 : Int32} {x13 : Int32} {s0 : Int32} {s1 : Int32} (h : zKeM σ0 σ) : zpc (fX12_oldSprites_283 k40 k231 σ x1 x2 x3 x4 x5 x8 x9 x10 x11 x12 x13 s0 s1) (fun r => zKeM σ0 (r)) := by
  unfold fX12_oldSprites_283
  exact zpc_bi (w_fX12_video8 h) (fun σ5 v6 hσ5 => zpc_ck (zpc_bv (fun v7 _ => zpc_bv (fun v8 _ => zpc_if (fun _ => w_fX12_oldSprites_382 hk40 hk231 hσ5) (fun _ => zpc_if (fun _ => w_fX12_oldSprites_382 hk40 hk231 hσ5) (fun _ => zpc_if (fun _ => zpc_ck (zpc_if (fun _ => w_fX12_oldSprites_350 hk40 hk231 hσ5) (fun _ => zpc_ck (zpc_ck (zpc_bs (zKeM.wi hσ5 (by decide)) (fun σ9 hσ9 => w_fX12_oldSprites_350 hk40 hk231 hσ9)))))) (fun _ => w_fX12_oldSprites_382 hk40 hk231 hσ5)))))))
theorem w_fX12_oldSprites_231_body {σ0 : zSt} {k40 : zSt → Int32 → Int32 → Int32 → Int32 → Int32 → Option (zSt)} (hk40 : ∀ (y0 : zSt) (y1 : Int32) (y2 : Int32) (y3 : Int32) (y4 : Int32) (y5 : Int32), zKeM σ0 y0 → zpc (k40 y0 y1 y2 y3 y4 y5) (fun r => zKeM σ0 (r))) {k231 : zSt → Int32 → Int32 → Int32 → Int32 → Int32 → Int32 → Int32 → Int32 → Int32 → Int32 → Option (zSt)} (hk231 : ∀ (y0 : zSt) (y1 : Int32) (y2 : Int32) (y3 : Int32) (y4 : Int32) (y5 : Int32) (y6 : Int32) (y7 : Int32) (y8 : Int32) (y9 : Int32) (y10 : Int32), zKeM σ0 y0 → zpc (k231 y0 y1 y2 y3 y4 y5 y6 y7 y8 y9 y10) (fun r => zKeM σ0 (r))) {σ : zSt} {x1 : Int32} {x2 : Int32} {x3 : Int32} {x4 : Int32} {x5 : Int32} {x8 : Int32} {x9 : Int32} {x10 : Int32} {x11 : Int32} {x12 : Int32} (h : zKeM σ0 σ) : zpc (fX12_oldSprites_231_body k40 k231 σ x1 x2 x3 x4 x5 x8 x9 x10 x11 x12) (fun r => zKeM σ0 (r)) := by
  unfold fX12_oldSprites_231_body
  exact zpc_if (fun _ => w_fX12_oldSprites_388 hk40 h) (fun _ => zpc_ck (zpc_bv (fun v10 _ => zpc_bi (w_fX12_reg h) (fun σ11 v12 hσ11 => zpc_ck (zpc_ck (zpc_if (fun _ => w_fX12_oldSprites_283 hk40 hk231 hσ11) (fun _ => w_fX12_oldSprites_283 hk40 hk231 hσ11)))))))
theorem w_fX12_oldSprites_231 {σ0 : zSt} {k40 : zSt → Int32 → Int32 → Int32 → Int32 → Int32 → Option (zSt)} (hk40 : ∀ (y0 : zSt) (y1 : Int32) (y2 : Int32) (y3 : Int32) (y4 : Int32) (y5 : Int32), zKeM σ0 y0 → zpc (k40 y0 y1 y2 y3 y4 y5) (fun r => zKeM σ0 (r))) : ∀ (n : Nat) (y0 : zSt) (y1 : Int32) (y2 : Int32) (y3 : Int32) (y4 : Int32) (y5 : Int32) (y6 : Int32) (y7 : Int32) (y8 : Int32) (y9 : Int32) (y10 : Int32), zKeM σ0 y0 → zpc (fX12_oldSprites_231 k40 n y0 y1 y2 y3 y4 y5 y6 y7 y8 y9 y10) (fun r => zKeM σ0 (r)) := by
  intro n
  induction n with
  | zero => intro y0 y1 y2 y3 y4 y5 y6 y7 y8 y9 y10 h; exact zpc_none
  | succ n ih => intro y0 y1 y2 y3 y4 y5 y6 y7 y8 y9 y10 h; exact w_fX12_oldSprites_231_body hk40 ih h
theorem w_fX12_oldSprites_225 {σ0 : zSt} {k40 : zSt → Int32 → Int32 → Int32 → Int32 → Int32 → Option (zSt)} (hk40 : ∀ (y0 : zSt) (y1 : Int32) (y2 : Int32) (y3 : Int32) (y4 : Int32) (y5 : Int32), zKeM σ0 y0 → zpc (k40 y0 y1 y2 y3 y4 y5) (fun r => zKeM σ0 (r))) {σ : zSt} {x1 : Int32} {x2 : Int32} {x3 : Int32} {x4 : Int32} {x5 : Int32} {x8 : Int32} {x9 : Int32} {x10 : Int32} {s0 : Int32} {s1 : Int32} (h : zKeM σ0 σ) : zpc (fX12_oldSprites_225 k40 σ x1 x2 x3 x4 x5 x8 x9 x10 s0 s1) (fun r => zKeM σ0 (r)) := by
  unfold fX12_oldSprites_225
  exact zpc_bv (fun v13 _ => w_fX12_oldSprites_231 hk40 _ _ _ _ _ _ _ _ _ _ _ _ h)
theorem w_fX12_oldSprites_183 {σ0 : zSt} {k40 : zSt → Int32 → Int32 → Int32 → Int32 → Int32 → Option (zSt)} (hk40 : ∀ (y0 : zSt) (y1 : Int32) (y2 : Int32) (y3 : Int32) (y4 : Int32) (y5 : Int32), zKeM σ0 y0 → zpc (k40 y0 y1 y2 y3 y4 y5) (fun r => zKeM σ0 (r))) {σ : zSt} {x1 : Int32} {x2 : Int32} {x3 : Int32} {x4 : Int32} {x5 : Int32} {x6 : Int32} {x8 : Int32} {s0 : Int32} (h : zKeM σ0 σ) : zpc (fX12_oldSprites_183 k40 σ x1 x2 x3 x4 x5 x6 x8 s0) (fun r => zKeM σ0 (r)) := by
  unfold fX12_oldSprites_183
  exact zpc_bi (w_fX12_video8 h) (fun σ14 v15 hσ14 => zpc_bv (fun v16 _ => zpc_bi (w_fX12_video8 hσ14) (fun σ17 v18 hσ17 => zpc_bi (w_fX12_video8 hσ17) (fun σ19 v20 hσ19 => zpc_if (fun _ => w_fX12_oldSprites_225 hk40 hσ19) (fun _ => w_fX12_oldSprites_225 hk40 hσ19)))))
theorem w_fX12_oldSprites_40_body {σ0 : zSt} {k40 : zSt → Int32 → Int32 → Int32 → Int32 → Int32 → Option (zSt)} (hk40 : ∀ (y0 : zSt) (y1 : Int32) (y2 : Int32) (y3 : Int32) (y4 : Int32) (y5 : Int32), zKeM σ0 y0 → zpc (k40 y0 y1 y2 y3 y4 y5) (fun r => zKeM σ0 (r))) {σ : zSt} {x1 : Int32} {x2 : Int32} {x3 : Int32} {x4 : Int32} {x5 : Int32} (h : zKeM σ0 σ) : zpc (fX12_oldSprites_40_body k40 σ x1 x2 x3 x4 x5) (fun r => zKeM σ0 (r)) := by
  unfold fX12_oldSprites_40_body
  exact zpc_if (fun _ => zpc_some h) (fun _ => zpc_bi (w_fX12_reg h) (fun σ21 v22 hσ21 => zpc_ck (zpc_bv (fun v23 _ => zpc_bi (w_fX12_video8 hσ21) (fun σ24 v25 hσ24 => zpc_if (fun _ => zpc_some hσ24) (fun _ => zpc_bv (fun v26 _ => zpc_if (fun _ => zpc_if (fun _ => zpc_ck (zpc_if (fun _ => zpc_ck (zpc_ck (zpc_bs (zKeM.wi hσ24 (by decide)) (fun σ32 hσ32 => w_fX12_oldSprites_150 hσ32)))) (fun _ => w_fX12_oldSprites_150 hσ24))) (fun _ => zpc_bv (fun v27 _ => zpc_if (fun _ => zpc_bi (w_fX12_video8 hσ24) (fun σ30 v31 hσ30 => w_fX12_oldSprites_183 hk40 hσ30)) (fun _ => zpc_bi (w_fX12_video8 hσ24) (fun σ28 v29 hσ28 => w_fX12_oldSprites_183 hk40 hσ28))))) (fun _ => w_fX12_oldSprites_388 hk40 hσ24))))))))
theorem w_fX12_oldSprites_40 {σ0 : zSt} : ∀ (n : Nat) (y0 : zSt) (y1 : Int32) (y2 : Int32) (y3 : Int32) (y4 : Int32) (y5 : Int32), zKeM σ0 y0 → zpc (fX12_oldSprites_40 n y0 y1 y2 y3 y4 y5) (fun r => zKeM σ0 (r)) := by
  intro n
  induction n with
  | zero => intro y0 y1 y2 y3 y4 y5 h; exact zpc_none
  | succ n ih => intro y0 y1 y2 y3 y4 y5 h; exact w_fX12_oldSprites_40_body ih h
theorem w_fX12_oldSprites_33 {σ0 : zSt} {σ : zSt} {x1 : Int32} {x2 : Int32} {s0 : Int32} (h : zKeM σ0 σ) : zpc (fX12_oldSprites_33 σ x1 x2 s0) (fun r => zKeM σ0 (r)) := by
  unfold fX12_oldSprites_33
  exact w_fX12_oldSprites_40 _ _ _ _ _ _ _ h
theorem w_fX12_oldSprites_15 {σ0 : zSt} {σ : zSt} {x1 : Int32} {s0 : Int32} (h : zKeM σ0 σ) : zpc (fX12_oldSprites_15 σ x1 s0) (fun r => zKeM σ0 (r)) := by
  unfold fX12_oldSprites_15
  exact zpc_bi (w_fX12_bit h) (fun σ33 v34 hσ33 => zpc_if (fun _ => w_fX12_oldSprites_33 hσ33) (fun _ => w_fX12_oldSprites_33 hσ33))
theorem w_fX12_oldSprites {σ0 : zSt} {σ : zSt} {x1 : Int32} (h : zKeM σ0 σ) : zpc (fX12_oldSprites σ x1) (fun r => zKeM σ0 (r)) := by
  unfold fX12_oldSprites
  exact zpc_bi (w_fX12_bit h) (fun σ35 v36 hσ35 => zpc_if (fun _ => w_fX12_oldSprites_15 hσ35) (fun _ => w_fX12_oldSprites_15 hσ35))
theorem w_fX12_draws_302_body {σ0 : zSt} {k302 : zSt → Int32 → Int32 → Option (zSt)} (hk302 : ∀ (y0 : zSt) (y1 : Int32) (y2 : Int32), zKeM σ0 y0 → zpc (k302 y0 y1 y2) (fun r => zKeM σ0 (r))) {σ : zSt} {x1 : Int32} {x3 : Int32} (h : zKeM σ0 σ) : zpc (fX12_draws_302_body k302 σ x1 x3) (fun r => zKeM σ0 (r)) := by
  unfold fX12_draws_302_body
  exact zpc_if (fun _ => zpc_some h) (fun _ => zpc_ck (zpc_bi (w_fX12_colour h) (fun σ1 v2 hσ1 => zpc_ck (zpc_bs (zKeM.wi hσ1 (by decide)) (fun σ3 hσ3 => zpc_bv (fun v4 _ => hk302 _ _ _ hσ3))))))
theorem w_fX12_draws_302 {σ0 : zSt} : ∀ (n : Nat) (y0 : zSt) (y1 : Int32) (y2 : Int32), zKeM σ0 y0 → zpc (fX12_draws_302 n y0 y1 y2) (fun r => zKeM σ0 (r)) := by
  intro n
  induction n with
  | zero => intro y0 y1 y2 h; exact zpc_none
  | succ n ih => intro y0 y1 y2 h; exact w_fX12_draws_302_body ih h
theorem w_fX12_draws_300 {σ0 : zSt} {σ : zSt} {x1 : Int32} (h : zKeM σ0 σ) : zpc (fX12_draws_300 σ x1) (fun r => zKeM σ0 (r)) := by
  unfold fX12_draws_300
  exact w_fX12_draws_302 _ _ _ _ h
theorem w_fX12_draws_244 {σ0 : zSt} {k213 : zSt → Int32 → Int32 → Int32 → Option (zSt)} (hk213 : ∀ (y0 : zSt) (y1 : Int32) (y2 : Int32) (y3 : Int32), zKeM σ0 y0 → zpc (k213 y0 y1 y2 y3) (fun r => zKeM σ0 (r))) {σ : zSt} {x1 : Int32} {x2 : Int32} {x3 : Int32} {s0 : Int32} {s1 : Int32} (h : zKeM σ0 σ) : zpc (fX12_draws_244 k213 σ x1 x2 x3 s0 s1) (fun r => zKeM σ0 (r)) := by
  unfold fX12_draws_244
  exact zpc_ck (zpc_bs (zKeM.wi h (by decide)) (fun σ5 hσ5 => zpc_bv (fun v6 _ => hk213 _ _ _ _ hσ5)))
theorem w_fX12_draws_294 {σ0 : zSt} {k266 : zSt → Int32 → Int32 → Option (zSt)} (hk266 : ∀ (y0 : zSt) (y1 : Int32) (y2 : Int32), zKeM σ0 y0 → zpc (k266 y0 y1 y2) (fun r => zKeM σ0 (r))) {σ : zSt} {x1 : Int32} {x3 : Int32} (h : zKeM σ0 σ) : zpc (fX12_draws_294 k266 σ x1 x3) (fun r => zKeM σ0 (r)) := by
  unfold fX12_draws_294
  exact zpc_bv (fun v7 _ => hk266 _ _ _ h)
theorem w_fX12_draws_266_body {σ0 : zSt} {k266 : zSt → Int32 → Int32 → Option (zSt)} (hk266 : ∀ (y0 : zSt) (y1 : Int32) (y2 : Int32), zKeM σ0 y0 → zpc (k266 y0 y1 y2) (fun r => zKeM σ0 (r))) {σ : zSt} {x1 : Int32} {x3 : Int32} (h : zKeM σ0 σ) : zpc (fX12_draws_266_body k266 σ x1 x3) (fun r => zKeM σ0 (r)) := by
  unfold fX12_draws_266_body
  exact zpc_if (fun _ => w_fX12_draws_300 h) (fun _ => zpc_ck (zpc_if (fun _ => w_fX12_draws_294 hk266 h) (fun _ => zpc_ck (zpc_ck (zpc_bs (zKeM.wi h (by decide)) (fun σ8 hσ8 => w_fX12_draws_294 hk266 hσ8))))))
theorem w_fX12_draws_266 {σ0 : zSt} : ∀ (n : Nat) (y0 : zSt) (y1 : Int32) (y2 : Int32), zKeM σ0 y0 → zpc (fX12_draws_266 n y0 y1 y2) (fun r => zKeM σ0 (r)) := by
  intro n
  induction n with
  | zero => intro y0 y1 y2 h; exact zpc_none
  | succ n ih => intro y0 y1 y2 h; exact w_fX12_draws_266_body ih h
theorem w_fX12_draws_264 {σ0 : zSt} {σ : zSt} {x1 : Int32} (h : zKeM σ0 σ) : zpc (fX12_draws_264 σ x1) (fun r => zKeM σ0 (r)) := by
  unfold fX12_draws_264
  exact w_fX12_draws_266 _ _ _ _ h
theorem w_fX12_draws_213_body {σ0 : zSt} {k213 : zSt → Int32 → Int32 → Int32 → Option (zSt)} (hk213 : ∀ (y0 : zSt) (y1 : Int32) (y2 : Int32) (y3 : Int32), zKeM σ0 y0 → zpc (k213 y0 y1 y2 y3) (fun r => zKeM σ0 (r))) {σ : zSt} {x1 : Int32} {x2 : Int32} {x3 : Int32} (h : zKeM σ0 σ) : zpc (fX12_draws_213_body k213 σ x1 x2 x3) (fun r => zKeM σ0 (r)) := by
  unfold fX12_draws_213_body
  exact zpc_if (fun _ => zpc_bi (w_fX12_mode h) (fun σ9 v10 hσ9 => zpc_if (fun _ => w_fX12_draws_264 hσ9) (fun _ => zpc_bu (w_fX12_oldSprites hσ9) (fun σ11 hσ11 => w_fX12_draws_264 hσ11)))) (fun _ => zpc_bi (w_fX12_old h) (fun σ12 v13 hσ12 => zpc_if (fun _ => w_fX12_draws_244 hk213 hσ12) (fun _ => w_fX12_draws_244 hk213 hσ12)))
theorem w_fX12_draws_213 {σ0 : zSt} : ∀ (n : Nat) (y0 : zSt) (y1 : Int32) (y2 : Int32) (y3 : Int32), zKeM σ0 y0 → zpc (fX12_draws_213 n y0 y1 y2 y3) (fun r => zKeM σ0 (r)) := by
  intro n
  induction n with
  | zero => intro y0 y1 y2 y3 h; exact zpc_none
  | succ n ih => intro y0 y1 y2 y3 h; exact w_fX12_draws_213_body ih h
theorem w_fX12_draws_200 {σ0 : zSt} {σ : zSt} {x1 : Int32} {x2 : Int32} (h : zKeM σ0 σ) : zpc (fX12_draws_200 σ x1 x2) (fun r => zKeM σ0 (r)) := by
  unfold fX12_draws_200
  exact zpc_bi (w_fX12_bit h) (fun σ14 v15 hσ14 => zpc_if (fun _ => w_fX12_draws_213 _ _ _ _ _ hσ14) (fun _ => w_fX12_draws_300 hσ14))
theorem w_fX12_draws_160 {σ0 : zSt} {k123 : zSt → Int32 → Int32 → Int32 → Option (zSt)} (hk123 : ∀ (y0 : zSt) (y1 : Int32) (y2 : Int32) (y3 : Int32), zKeM σ0 y0 → zpc (k123 y0 y1 y2 y3) (fun r => zKeM σ0 (r))) {σ : zSt} {x1 : Int32} {x2 : Int32} {x3 : Int32} (h : zKeM σ0 σ) : zpc (fX12_draws_160 k123 σ x1 x2 x3) (fun r => zKeM σ0 (r)) := by
  unfold fX12_draws_160
  exact zpc_bv (fun v16 _ => hk123 _ _ _ _ h)
theorem w_fX12_draws_197 {σ0 : zSt} {σ : zSt} {x1 : Int32} (h : zKeM σ0 σ) : zpc (fX12_draws_197 σ x1) (fun r => zKeM σ0 (r)) := by
  unfold fX12_draws_197
  exact w_fX12_draws_300 h
theorem w_fX12_draws_168_body {σ0 : zSt} {k168 : zSt → Int32 → Int32 → Int32 → Option (zSt)} (hk168 : ∀ (y0 : zSt) (y1 : Int32) (y2 : Int32) (y3 : Int32), zKeM σ0 y0 → zpc (k168 y0 y1 y2 y3) (fun r => zKeM σ0 (r))) {σ : zSt} {x1 : Int32} {x2 : Int32} {x3 : Int32} (h : zKeM σ0 σ) : zpc (fX12_draws_168_body k168 σ x1 x2 x3) (fun r => zKeM σ0 (r)) := by
  unfold fX12_draws_168_body
  exact zpc_if (fun _ => w_fX12_draws_197 h) (fun _ => zpc_bi (w_fX12_bit h) (fun σ17 v18 hσ17 => zpc_if (fun _ => zpc_ck (zpc_bs (zKeM.wi hσ17 (by decide)) (fun σ19 hσ19 => zpc_bv (fun v20 _ => hk168 _ _ _ _ hσ19)))) (fun _ => w_fX12_draws_197 hσ17)))
end ZJN1
section ZJN2
theorem w_fX12_draws_168 {σ0 : zSt} : ∀ (n : Nat) (y0 : zSt) (y1 : Int32) (y2 : Int32) (y3 : Int32), zKeM σ0 y0 → zpc (fX12_draws_168 n y0 y1 y2 y3) (fun r => zKeM σ0 (r)) := by
  intro n
  induction n with
  | zero => intro y0 y1 y2 y3 h; exact zpc_none
  | succ n ih => intro y0 y1 y2 y3 h; exact w_fX12_draws_168_body ih h
theorem w_fX12_draws_123_body {σ0 : zSt} {k123 : zSt → Int32 → Int32 → Int32 → Option (zSt)} (hk123 : ∀ (y0 : zSt) (y1 : Int32) (y2 : Int32) (y3 : Int32), zKeM σ0 y0 → zpc (k123 y0 y1 y2 y3) (fun r => zKeM σ0 (r))) {σ : zSt} {x1 : Int32} {x2 : Int32} {x3 : Int32} (h : zKeM σ0 σ) : zpc (fX12_draws_123_body k123 σ x1 x2 x3) (fun r => zKeM σ0 (r)) := by
  unfold fX12_draws_123_body
  exact zpc_if (fun _ => w_fX12_draws_168 _ _ _ _ _ h) (fun _ => zpc_ck (zpc_if (fun _ => w_fX12_draws_160 hk123 h) (fun _ => zpc_ck (zpc_if (fun _ => zpc_ck (zpc_ck (zpc_bs (zKeM.wi h (by decide)) (fun σ21 hσ21 => w_fX12_draws_160 hk123 hσ21)))) (fun _ => w_fX12_draws_160 hk123 h)))))
theorem w_fX12_draws_123 {σ0 : zSt} : ∀ (n : Nat) (y0 : zSt) (y1 : Int32) (y2 : Int32) (y3 : Int32), zKeM σ0 y0 → zpc (fX12_draws_123 n y0 y1 y2 y3) (fun r => zKeM σ0 (r)) := by
  intro n
  induction n with
  | zero => intro y0 y1 y2 y3 h; exact zpc_none
  | succ n ih => intro y0 y1 y2 y3 h; exact w_fX12_draws_123_body ih h
theorem w_fX12_draws_97_body {σ0 : zSt} {k97 : zSt → Int32 → Int32 → Int32 → Option (zSt)} (hk97 : ∀ (y0 : zSt) (y1 : Int32) (y2 : Int32) (y3 : Int32), zKeM σ0 y0 → zpc (k97 y0 y1 y2 y3) (fun r => zKeM σ0 (r))) {σ : zSt} {x1 : Int32} {x2 : Int32} {x3 : Int32} (h : zKeM σ0 σ) : zpc (fX12_draws_97_body k97 σ x1 x2 x3) (fun r => zKeM σ0 (r)) := by
  unfold fX12_draws_97_body
  exact zpc_if (fun _ => zpc_bu (w_fX12_sprites h) (fun σ22 hσ22 => w_fX12_draws_123 _ _ _ _ _ hσ22)) (fun _ => zpc_bu (w_fX12_tile h) (fun σ23 hσ23 => zpc_bv (fun v24 _ => hk97 _ _ _ _ hσ23)))
theorem w_fX12_draws_97 {σ0 : zSt} : ∀ (n : Nat) (y0 : zSt) (y1 : Int32) (y2 : Int32) (y3 : Int32), zKeM σ0 y0 → zpc (fX12_draws_97 n y0 y1 y2 y3) (fun r => zKeM σ0 (r)) := by
  intro n
  induction n with
  | zero => intro y0 y1 y2 y3 h; exact zpc_none
  | succ n ih => intro y0 y1 y2 y3 h; exact w_fX12_draws_97_body ih h
theorem w_fX12_draws_35_body {σ0 : zSt} {k35 : zSt → Int32 → Int32 → Int32 → Option (zSt)} (hk35 : ∀ (y0 : zSt) (y1 : Int32) (y2 : Int32) (y3 : Int32), zKeM σ0 y0 → zpc (k35 y0 y1 y2 y3) (fun r => zKeM σ0 (r))) {σ : zSt} {x1 : Int32} {x2 : Int32} {x3 : Int32} (h : zKeM σ0 σ) : zpc (fX12_draws_35_body k35 σ x1 x2 x3) (fun r => zKeM σ0 (r)) := by
  unfold fX12_draws_35_body
  exact zpc_if (fun _ => zpc_bi (w_fX12_bit h) (fun σ25 v26 hσ25 => zpc_if (fun _ => zpc_bi (w_fX12_mode hσ25) (fun σ27 v28 hσ27 => zpc_if (fun _ => w_fX12_draws_97 _ _ _ _ _ hσ27) (fun _ => w_fX12_draws_200 hσ27))) (fun _ => w_fX12_draws_200 hσ25))) (fun _ => zpc_ck (zpc_bs (zKeM.wi h (by decide)) (fun σ29 hσ29 => zpc_ck (zpc_bs (zKeM.wi hσ29 (by decide)) (fun σ30 hσ30 => zpc_ck (zpc_bs (zKeM.wi hσ30 (by decide)) (fun σ31 hσ31 => zpc_ck (zpc_bs (zKeM.wi hσ31 (by decide)) (fun σ32 hσ32 => zpc_bv (fun v33 _ => hk35 _ _ _ _ hσ32))))))))))
theorem w_fX12_draws_35 {σ0 : zSt} : ∀ (n : Nat) (y0 : zSt) (y1 : Int32) (y2 : Int32) (y3 : Int32), zKeM σ0 y0 → zpc (fX12_draws_35 n y0 y1 y2 y3) (fun r => zKeM σ0 (r)) := by
  intro n
  induction n with
  | zero => intro y0 y1 y2 y3 h; exact zpc_none
  | succ n ih => intro y0 y1 y2 y3 h; exact w_fX12_draws_35_body ih h
theorem w_fX12_draws_32 {σ0 : zSt} {σ : zSt} {x1 : Int32} {s0 : Int32} (h : zKeM σ0 σ) : zpc (fX12_draws_32 σ x1 s0) (fun r => zKeM σ0 (r)) := by
  unfold fX12_draws_32
  exact w_fX12_draws_35 _ _ _ _ _ h
theorem w_fX12_draws {σ0 : zSt} {σ : zSt} {x1 : Int32} (h : zKeM σ0 σ) : zpc (fX12_draws σ x1) (fun r => zKeM σ0 (r)) := by
  unfold fX12_draws
  exact zpc_bi (w_fX12_mode h) (fun σ34 v35 hσ34 => zpc_if (fun _ => zpc_bi (w_fX12_reg hσ34) (fun σ38 v39 hσ38 => zpc_ck (w_fX12_draws_32 hσ38))) (fun _ => zpc_bi (w_fX12_reg hσ34) (fun σ36 v37 hσ36 => zpc_ck (w_fX12_draws_32 hσ36))))
theorem w_fX12_planned_113 {σ0 : zSt} {σ : zSt} (h : zKeM σ0 σ) : zpc (fX12_planned_113 σ) (fun r => zKeM σ0 (r)) := by
  unfold fX12_planned_113
  exact zpc_some h
theorem w_fX12_planned_68_body {σ0 : zSt} {k0 : zSt → Option (zSt)} (hk0 : ∀ (y0 : zSt), zKeM σ0 y0 → zpc (k0 y0) (fun r => zKeM σ0 (r))) {k68 : zSt → Int32 → Option (zSt)} (hk68 : ∀ (y0 : zSt) (y1 : Int32), zKeM σ0 y0 → zpc (k68 y0 y1) (fun r => zKeM σ0 (r))) {σ : zSt} {x1 : Int32} (h : zKeM σ0 σ) : zpc (fX12_planned_68_body k0 k68 σ x1) (fun r => zKeM σ0 (r)) := by
  unfold fX12_planned_68_body
  exact zpc_ck (zpc_if (fun _ => hk0 _ h) (fun _ => zpc_ck (zpc_ck (zpc_bs (zKeM.wi h (by decide)) (fun σ1 hσ1 => zpc_bv (fun v2 _ => hk68 _ _ hσ1))))))
theorem w_fX12_planned_68 {σ0 : zSt} {k0 : zSt → Option (zSt)} (hk0 : ∀ (y0 : zSt), zKeM σ0 y0 → zpc (k0 y0) (fun r => zKeM σ0 (r))) : ∀ (n : Nat) (y0 : zSt) (y1 : Int32), zKeM σ0 y0 → zpc (fX12_planned_68 k0 n y0 y1) (fun r => zKeM σ0 (r)) := by
  intro n
  induction n with
  | zero => intro y0 y1 h; exact zpc_none
  | succ n ih => intro y0 y1 h; exact w_fX12_planned_68_body hk0 ih h
theorem w_fX12_planned_0_body {σ0 : zSt} {k0 : zSt → Option (zSt)} (hk0 : ∀ (y0 : zSt), zKeM σ0 y0 → zpc (k0 y0) (fun r => zKeM σ0 (r))) {σ : zSt} (h : zKeM σ0 σ) : zpc (fX12_planned_0_body k0 σ) (fun r => zKeM σ0 (r)) := by
  unfold fX12_planned_0_body
  exact zpc_ck (zpc_if (fun _ => w_fX12_planned_113 h) (fun _ => zpc_ck (zpc_ck (zpc_if (fun _ => w_fX12_planned_113 h) (fun _ => zpc_ck (zpc_ck (zpc_ck (zpc_bs (zKeM.wi h (by decide)) (fun σ3 hσ3 => zpc_ck (zpc_ck (zpc_bs (zKeM.wi hσ3 (by decide)) (fun σ4 hσ4 => w_fX12_planned_68 hk0 _ _ _ hσ4))))))))))))
theorem w_fX12_planned_0 {σ0 : zSt} : ∀ (n : Nat) (y0 : zSt), zKeM σ0 y0 → zpc (fX12_planned_0 n y0) (fun r => zKeM σ0 (r)) := by
  intro n
  induction n with
  | zero => intro y0 h; exact zpc_none
  | succ n ih => intro y0 h; exact w_fX12_planned_0_body ih h
theorem w_fX12_planned {σ0 : zSt} {σ : zSt} (h : zKeM σ0 σ) : zpc (fX12_planned σ) (fun r => zKeM σ0 (r)) := by
  unfold fX12_planned
  exact w_fX12_planned_0 _ _ h
theorem w_fX12_ends_195 {σ0 : zSt} {σ : zSt} (h : zKeM σ0 σ) : zpc (fX12_ends_195 σ) (fun r => zKeM σ0 (r)) := by
  unfold fX12_ends_195
  exact zpc_some h
theorem w_fX12_ends_169 {σ0 : zSt} {σ : zSt} {x1 : Int32} (h : zKeM σ0 σ) : zpc (fX12_ends_169 σ x1) (fun r => zKeM σ0 (r)) := by
  unfold fX12_ends_169
  exact zpc_ck (zpc_if (fun _ => zpc_ck (zpc_ck (zpc_bs (zKeM.wi h (by decide)) (fun σ1 hσ1 => w_fX12_ends_195 hσ1)))) (fun _ => w_fX12_ends_195 h))
theorem w_fX12_ends_131 {σ0 : zSt} {σ : zSt} {x1 : Int32} {s0 : Int32} {s1 : Int32} (h : zKeM σ0 σ) : zpc (fX12_ends_131 σ x1 s0 s1) (fun r => zKeM σ0 (r)) := by
  unfold fX12_ends_131
  exact zpc_if (fun _ => zpc_ck (zpc_bs (zKeM.wi h (by decide)) (fun σ2 hσ2 => zpc_bi (w_fX12_reg hσ2) (fun σ3 v4 hσ3 => zpc_ck (zpc_bs (zKeM.wi hσ3 (by decide)) (fun σ5 hσ5 => zpc_ck (zpc_ck (zpc_bs (zKeM.wl hσ5) (fun σ6 hσ6 => zpc_bu (w_fX12_planned hσ6) (fun σ7 hσ7 => w_fX12_ends_169 hσ7)))))))))) (fun _ => w_fX12_ends_169 h)
theorem w_fX12_ends_96 {σ0 : zSt} {σ : zSt} {x1 : Int32} (h : zKeM σ0 σ) : zpc (fX12_ends_96 σ x1) (fun r => zKeM σ0 (r)) := by
  unfold fX12_ends_96
  exact zpc_ck (zpc_ck (zpc_bs (zKeM.wi h (by decide)) (fun σ8 hσ8 => zpc_ck (zpc_if (fun _ => w_fX12_ends_131 hσ8) (fun _ => w_fX12_ends_131 hσ8)))))
theorem w_fX12_ends_27 {σ0 : zSt} {σ : zSt} {x1 : Int32} (h : zKeM σ0 σ) : zpc (fX12_ends_27 σ x1) (fun r => zKeM σ0 (r)) := by
  unfold fX12_ends_27
  exact zpc_ck (zpc_if (fun _ => zpc_bi (w_fX12_reg h) (fun σ9 v10 hσ9 => zpc_ck (zpc_bs (zKeM.wi hσ9 (by decide)) (fun σ11 hσ11 => w_fX12_ends_96 hσ11)))) (fun _ => zpc_ck (zpc_ck (zpc_bs (zKeM.wi h (by decide)) (fun σ12 hσ12 => zpc_ck (zpc_if (fun _ => w_fX12_ends_96 hσ12) (fun _ => zpc_bi (w_fX12_reg hσ12) (fun σ13 v14 hσ13 => zpc_ck (zpc_bs (zKeM.wi hσ13 (by decide)) (fun σ15 hσ15 => zpc_ck (zpc_bs (zKeM.wi hσ15 (by decide)) (fun σ16 hσ16 => w_fX12_ends_96 hσ16))))))))))))
theorem w_fX12_ends {σ0 : zSt} {σ : zSt} (h : zKeM σ0 σ) : zpc (fX12_ends σ) (fun r => zKeM σ0 (r)) := by
  unfold fX12_ends
  exact zpc_bi (w_fX12_height h) (fun σ17 v18 hσ17 => zpc_ck (zpc_if (fun _ => w_fX12_ends_27 hσ17) (fun _ => zpc_ck (zpc_bu (w_fX12_draws hσ17) (fun σ19 hσ19 => w_fX12_ends_27 hσ19)))))
theorem w_fX12_loudness {σ0 : zSt} {σ : zSt} {x0 : Int32} (h : zKeM σ0 σ) : zpc (fX12_loudness σ x0) (fun r => zKeM σ0 (r.1)) := by
  unfold fX12_loudness
  exact zpc_if (fun _ => zpc_some h) (fun _ => zpc_if (fun _ => zpc_some h) (fun _ => zpc_if (fun _ => zpc_some h) (fun _ => zpc_if (fun _ => zpc_some h) (fun _ => zpc_if (fun _ => zpc_some h) (fun _ => zpc_if (fun _ => zpc_some h) (fun _ => zpc_if (fun _ => zpc_some h) (fun _ => zpc_if (fun _ => zpc_some h) (fun _ => zpc_if (fun _ => zpc_some h) (fun _ => zpc_if (fun _ => zpc_some h) (fun _ => zpc_if (fun _ => zpc_some h) (fun _ => zpc_if (fun _ => zpc_some h) (fun _ => zpc_if (fun _ => zpc_some h) (fun _ => zpc_if (fun _ => zpc_some h) (fun _ => zpc_if (fun _ => zpc_some h) (fun _ => zpc_some h)))))))))))))))
theorem w_fX12_sample_102 {σ0 : zSt} {k2 : zSt → Int32 → Option (zSt)} (hk2 : ∀ (y0 : zSt) (y1 : Int32), zKeM σ0 y0 → zpc (k2 y0 y1) (fun r => zKeM σ0 (r))) {σ : zSt} {x1 : Int32} (h : zKeM σ0 σ) : zpc (fX12_sample_102 k2 σ x1) (fun r => zKeM σ0 (r)) := by
  unfold fX12_sample_102
  exact zpc_bv (fun v1 _ => hk2 _ _ h)
theorem w_fX12_sample_101 {σ0 : zSt} {k2 : zSt → Int32 → Option (zSt)} (hk2 : ∀ (y0 : zSt) (y1 : Int32), zKeM σ0 y0 → zpc (k2 y0 y1) (fun r => zKeM σ0 (r))) {σ : zSt} {x1 : Int32} {s0 : Int32} {s1 : Int32} (h : zKeM σ0 σ) : zpc (fX12_sample_101 k2 σ x1 s0 s1) (fun r => zKeM σ0 (r)) := by
  unfold fX12_sample_101
  exact zpc_ck (zpc_bs (zKeM.wi h (by decide)) (fun σ2 hσ2 => w_fX12_sample_102 hk2 hσ2))
theorem w_fX12_sample_32 {σ0 : zSt} {k2 : zSt → Int32 → Option (zSt)} (hk2 : ∀ (y0 : zSt) (y1 : Int32), zKeM σ0 y0 → zpc (k2 y0 y1) (fun r => zKeM σ0 (r))) {σ : zSt} {x1 : Int32} (h : zKeM σ0 σ) : zpc (fX12_sample_32 k2 σ x1) (fun r => zKeM σ0 (r)) := by
  unfold fX12_sample_32
  exact zpc_ck (zpc_if (fun _ => zpc_ck (zpc_ck (zpc_bs (zKeM.wi h (by decide)) (fun σ3 hσ3 => zpc_ck (zpc_if (fun _ => zpc_ck (w_fX12_sample_101 hk2 hσ3)) (fun _ => w_fX12_sample_101 hk2 hσ3)))))) (fun _ => w_fX12_sample_102 hk2 h))
theorem w_fX12_sample_407 {σ0 : zSt} {k275 : zSt → Int64 → Int64 → Int32 → Option (zSt)} (hk275 : ∀ (y0 : zSt) (y1 : Int64) (y2 : Int64) (y3 : Int32), zKeM σ0 y0 → zpc (k275 y0 y1 y2 y3) (fun r => zKeM σ0 (r))) {σ : zSt} {x1 : Int64} {x3 : Int64} {x5 : Int32} (h : zKeM σ0 σ) : zpc (fX12_sample_407 k275 σ x1 x3 x5) (fun r => zKeM σ0 (r)) := by
  unfold fX12_sample_407
  exact zpc_bv (fun v4 _ => hk275 _ _ _ _ h)
theorem w_fX12_sample_369 {σ0 : zSt} {k275 : zSt → Int64 → Int64 → Int32 → Option (zSt)} (hk275 : ∀ (y0 : zSt) (y1 : Int64) (y2 : Int64) (y3 : Int32), zKeM σ0 y0 → zpc (k275 y0 y1 y2 y3) (fun r => zKeM σ0 (r))) {σ : zSt} {x1 : Int64} {x3 : Int64} {x5 : Int32} {x6 : Int32} (h : zKeM σ0 σ) : zpc (fX12_sample_369 k275 σ x1 x3 x5 x6) (fun r => zKeM σ0 (r)) := by
  unfold fX12_sample_369
  exact zpc_if (fun _ => w_fX12_sample_407 hk275 h) (fun _ => zpc_ck (zpc_if (fun _ => zpc_ck (zpc_bi (w_fX12_loudness h) (fun σ5 v6 hσ5 => zpc_bv (fun v7 _ => w_fX12_sample_407 hk275 hσ5)))) (fun _ => w_fX12_sample_407 hk275 h)))
theorem w_fX12_sample_327 {σ0 : zSt} {k275 : zSt → Int64 → Int64 → Int32 → Option (zSt)} (hk275 : ∀ (y0 : zSt) (y1 : Int64) (y2 : Int64) (y3 : Int32), zKeM σ0 y0 → zpc (k275 y0 y1 y2 y3) (fun r => zKeM σ0 (r))) {σ : zSt} {x1 : Int64} {x3 : Int64} {x5 : Int32} {s0 : Int32} (h : zKeM σ0 σ) : zpc (fX12_sample_327 k275 σ x1 x3 x5 s0) (fun r => zKeM σ0 (r)) := by
  unfold fX12_sample_327
  exact zpc_if (fun _ => w_fX12_sample_369 hk275 h) (fun _ => zpc_ck (zpc_if (fun _ => zpc_ck (zpc_bi (w_fX12_loudness h) (fun σ8 v9 hσ8 => zpc_bv (fun v10 _ => w_fX12_sample_369 hk275 hσ8)))) (fun _ => w_fX12_sample_369 hk275 h)))
theorem w_fX12_sample_508 {σ0 : zSt} {σ : zSt} {x1 : Int64} {x3 : Int64} (h : zKeM σ0 σ) : zpc (fX12_sample_508 σ x1 x3) (fun r => zKeM σ0 (r)) := by
  unfold fX12_sample_508
  exact zpc_ck (zpc_ck (zpc_ck (zpc_ck (zpc_bs (zKeM.wl h) (fun σ11 hσ11 => zpc_some hσ11)))))
theorem w_fX12_sample_275_body {σ0 : zSt} {k275 : zSt → Int64 → Int64 → Int32 → Option (zSt)} (hk275 : ∀ (y0 : zSt) (y1 : Int64) (y2 : Int64) (y3 : Int32), zKeM σ0 y0 → zpc (k275 y0 y1 y2 y3) (fun r => zKeM σ0 (r))) {σ : zSt} {x1 : Int64} {x3 : Int64} {x5 : Int32} (h : zKeM σ0 σ) : zpc (fX12_sample_275_body k275 σ x1 x3 x5) (fun r => zKeM σ0 (r)) := by
  unfold fX12_sample_275_body
  exact zpc_if (fun _ => zpc_ck (zpc_ck (zpc_bs (zKeM.wl h) (fun σ12 hσ12 => zpc_ck (zpc_ck (zpc_bs (zKeM.wi hσ12 (by decide)) (fun σ13 hσ13 => zpc_ck (zpc_ck (zpc_bs (zKeM.wi hσ13 (by decide)) (fun σ14 hσ14 => zpc_ck (zpc_ck (zpc_bs (zKeM.wi hσ14 (by decide)) (fun σ15 hσ15 => zpc_ck (zpc_if (fun _ => zpc_ck (zpc_ck (zpc_ck (zpc_bs (zKeM.wi hσ15 (by decide)) (fun σ17 hσ17 => w_fX12_sample_508 hσ17))))) (fun _ => zpc_ck (zpc_ck (zpc_bs (zKeM.wi hσ15 (by decide)) (fun σ16 hσ16 => w_fX12_sample_508 hσ16)))))))))))))))))) (fun _ => zpc_if (fun _ => zpc_ck (zpc_if (fun _ => w_fX12_sample_327 hk275 h) (fun _ => w_fX12_sample_327 hk275 h))) (fun _ => zpc_ck (zpc_if (fun _ => w_fX12_sample_327 hk275 h) (fun _ => w_fX12_sample_327 hk275 h))))
theorem w_fX12_sample_275 {σ0 : zSt} : ∀ (n : Nat) (y0 : zSt) (y1 : Int64) (y2 : Int64) (y3 : Int32), zKeM σ0 y0 → zpc (fX12_sample_275 n y0 y1 y2 y3) (fun r => zKeM σ0 (r)) := by
  intro n
  induction n with
  | zero => intro y0 y1 y2 y3 h; exact zpc_none
  | succ n ih => intro y0 y1 y2 y3 h; exact w_fX12_sample_275_body ih h
theorem w_fX12_sample_268 {σ0 : zSt} {σ : zSt} (h : zKeM σ0 σ) : zpc (fX12_sample_268 σ) (fun r => zKeM σ0 (r)) := by
  unfold fX12_sample_268
  exact w_fX12_sample_275 _ _ _ _ _ h
theorem w_fX12_sample_246 {σ0 : zSt} {σ : zSt} {s0 : Int32} (h : zKeM σ0 σ) : zpc (fX12_sample_246 σ s0) (fun r => zKeM σ0 (r)) := by
  unfold fX12_sample_246
  exact zpc_ck (zpc_ck (zpc_bs (zKeM.wi h (by decide)) (fun σ18 hσ18 => w_fX12_sample_268 hσ18)))
theorem w_fX12_sample_174 {σ0 : zSt} {σ : zSt} {s0 : Int32} {s1 : Int32} (h : zKeM σ0 σ) : zpc (fX12_sample_174 σ s0 s1) (fun r => zKeM σ0 (r)) := by
  unfold fX12_sample_174
  exact zpc_ck (zpc_bs (zKeM.wi h (by decide)) (fun σ19 hσ19 => zpc_ck (zpc_ck (zpc_bs (zKeM.wi hσ19 (by decide)) (fun σ20 hσ20 => zpc_ck (zpc_if (fun _ => zpc_ck (zpc_if (fun _ => zpc_ck (zpc_ck (w_fX12_sample_246 hσ20))) (fun _ => zpc_ck (w_fX12_sample_246 hσ20)))) (fun _ => w_fX12_sample_268 hσ20)))))))
theorem w_fX12_sample_129 {σ0 : zSt} {σ : zSt} (h : zKeM σ0 σ) : zpc (fX12_sample_129 σ) (fun r => zKeM σ0 (r)) := by
  unfold fX12_sample_129
  exact zpc_ck (zpc_if (fun _ => zpc_ck (zpc_ck (zpc_bv (fun v21 _ => zpc_if (fun _ => zpc_ck (w_fX12_sample_174 h)) (fun _ => w_fX12_sample_174 h))))) (fun _ => w_fX12_sample_268 h))
theorem w_fX12_sample_2_body {σ0 : zSt} {k2 : zSt → Int32 → Option (zSt)} (hk2 : ∀ (y0 : zSt) (y1 : Int32), zKeM σ0 y0 → zpc (k2 y0 y1) (fun r => zKeM σ0 (r))) {σ : zSt} {x1 : Int32} (h : zKeM σ0 σ) : zpc (fX12_sample_2_body k2 σ x1) (fun r => zKeM σ0 (r)) := by
  unfold fX12_sample_2_body
  exact zpc_if (fun _ => zpc_ck (zpc_if (fun _ => w_fX12_sample_129 h) (fun _ => zpc_ck (zpc_ck (zpc_bs (zKeM.wi h (by decide)) (fun σ22 hσ22 => w_fX12_sample_129 hσ22)))))) (fun _ => zpc_ck (zpc_if (fun _ => w_fX12_sample_32 hk2 h) (fun _ => zpc_bv (fun v23 _ => zpc_ck (zpc_ck (zpc_bs (zKeM.wi h (by decide)) (fun σ24 hσ24 => w_fX12_sample_32 hk2 hσ24)))))))
theorem w_fX12_sample_2 {σ0 : zSt} : ∀ (n : Nat) (y0 : zSt) (y1 : Int32), zKeM σ0 y0 → zpc (fX12_sample_2 n y0 y1) (fun r => zKeM σ0 (r)) := by
  intro n
  induction n with
  | zero => intro y0 y1 h; exact zpc_none
  | succ n ih => intro y0 y1 h; exact w_fX12_sample_2_body ih h
theorem w_fX12_sample {σ0 : zSt} {σ : zSt} (h : zKeM σ0 σ) : zpc (fX12_sample σ) (fun r => zKeM σ0 (r)) := by
  unfold fX12_sample
  exact w_fX12_sample_2 _ _ _ h
theorem w_fX12_wreg {σ0 : zSt} {σ : zSt} {x1 : Int32} (h : zKeM σ0 σ) : zpc (fX12_wreg σ x1) (fun r => zKeM σ0 (r.1)) := by
  unfold fX12_wreg
  exact zpc_ck (zpc_some h)
theorem w_fX12_isRhythm_22 {σ0 : zSt} {σ : zSt} {s0 : Int32} (h : zKeM σ0 σ) : zpc (fX12_isRhythm_22 σ s0) (fun r => zKeM σ0 (r.1)) := by
  unfold fX12_isRhythm_22
  exact zpc_ck (zpc_some h)
theorem w_fX12_isRhythm_21 {σ0 : zSt} {σ : zSt} (h : zKeM σ0 σ) : zpc (fX12_isRhythm_21 σ) (fun r => zKeM σ0 (r.1)) := by
  unfold fX12_isRhythm_21
  exact w_fX12_isRhythm_22 h
theorem w_fX12_isRhythm {σ0 : zSt} {σ : zSt} {x1 : Int32} (h : zKeM σ0 σ) : zpc (fX12_isRhythm σ x1) (fun r => zKeM σ0 (r.1)) := by
  unfold fX12_isRhythm
  exact zpc_if (fun _ => w_fX12_isRhythm_21 h) (fun _ => zpc_bi (w_fX12_wreg h) (fun σ1 v2 hσ1 => zpc_if (fun _ => w_fX12_isRhythm_21 hσ1) (fun _ => w_fX12_isRhythm_22 hσ1)))
theorem w_fX12_isOn_60 {σ0 : zSt} {σ : zSt} {x3 : Int32} {s0 : Int32} (h : zKeM σ0 σ) : zpc (fX12_isOn_60 σ x3 s0) (fun r => zKeM σ0 (r.1)) := by
  unfold fX12_isOn_60
  exact zpc_bi (w_fX12_wreg h) (fun σ1 v2 hσ1 => zpc_some hσ1)
theorem w_fX12_isOn {σ0 : zSt} {σ : zSt} {x1 : Int32} {x2 : Int32} (h : zKeM σ0 σ) : zpc (fX12_isOn σ x1 x2) (fun r => zKeM σ0 (r.1)) := by
  unfold fX12_isOn
  exact zpc_bi (w_fX12_wreg h) (fun σ3 v4 hσ3 => zpc_bv (fun v5 _ => zpc_bi (w_fX12_isRhythm hσ3) (fun σ6 v7 hσ6 => zpc_if (fun _ => zpc_some hσ6) (fun _ => zpc_if (fun _ => w_fX12_isOn_60 hσ6) (fun _ => zpc_if (fun _ => zpc_if (fun _ => w_fX12_isOn_60 hσ6) (fun _ => w_fX12_isOn_60 hσ6)) (fun _ => zpc_if (fun _ => w_fX12_isOn_60 hσ6) (fun _ => w_fX12_isOn_60 hσ6)))))))
theorem w_fX12_digit_20 {σ0 : zSt} {σ : zSt} {s0 : Int32} (h : zKeM σ0 σ) : zpc (fX12_digit_20 σ s0) (fun r => zKeM σ0 (r.1)) := by
  unfold fX12_digit_20
  exact zpc_some h
theorem w_fX12_digit {σ0 : zSt} {σ : zSt} {x0 : Int32} (h : zKeM σ0 σ) : zpc (fX12_digit σ x0) (fun r => zKeM σ0 (r.1)) := by
  unfold fX12_digit
  exact zpc_if (fun _ => w_fX12_digit_20 h) (fun _ => w_fX12_digit_20 h)
theorem w_fX12_patchByte_25 {σ0 : zSt} {σ : zSt} {x2 : Int32} {s0 : Int32} (h : zKeM σ0 σ) : zpc (fX12_patchByte_25 σ x2 s0) (fun r => zKeM σ0 (r.1)) := by
  unfold fX12_patchByte_25
  exact zpc_if (fun _ => zpc_bi (w_fX12_wreg h) (fun σ6 v7 hσ6 => zpc_some hσ6)) (fun _ => zpc_bv (fun v1 _ => zpc_ck (zpc_ck (zpc_bi (w_fX12_digit h) (fun σ2 v3 hσ2 => zpc_ck (zpc_ck (zpc_bi (w_fX12_digit hσ2) (fun σ4 v5 hσ4 => zpc_some hσ4))))))))
theorem w_fX12_patchByte {σ0 : zSt} {σ : zSt} {x1 : Int32} {x2 : Int32} (h : zKeM σ0 σ) : zpc (fX12_patchByte σ x1 x2) (fun r => zKeM σ0 (r.1)) := by
  unfold fX12_patchByte
  exact zpc_bi (w_fX12_isRhythm h) (fun σ8 v9 hσ8 => zpc_if (fun _ => zpc_bi (w_fX12_wreg hσ8) (fun σ10 v11 hσ10 => w_fX12_patchByte_25 hσ10)) (fun _ => w_fX12_patchByte_25 hσ8))
theorem w_fX12_rate_140 {σ0 : zSt} {σ : zSt} {s0 : Int32} (h : zKeM σ0 σ) : zpc (fX12_rate_140 σ s0) (fun r => zKeM σ0 (r.1)) := by
  unfold fX12_rate_140
  exact zpc_some h
theorem w_fX12_rate_99 {σ0 : zSt} {σ : zSt} {s0 : Int32} (h : zKeM σ0 σ) : zpc (fX12_rate_99 σ s0) (fun r => zKeM σ0 (r.1)) := by
  unfold fX12_rate_99
  exact zpc_some h
theorem w_fX12_rate_17 {σ0 : zSt} {σ : zSt} {x1 : Int32} {x2 : Int32} {x3 : Int32} {s0 : Int32} (h : zKeM σ0 σ) : zpc (fX12_rate_17 σ x1 x2 x3 s0) (fun r => zKeM σ0 (r.1)) := by
  unfold fX12_rate_17
  exact zpc_if (fun _ => zpc_some h) (fun _ => zpc_if (fun _ => zpc_bi (w_fX12_patchByte h) (fun σ1 v2 hσ1 => zpc_some hσ1)) (fun _ => zpc_if (fun _ => zpc_bi (w_fX12_patchByte h) (fun σ3 v4 hσ3 => zpc_some hσ3)) (fun _ => zpc_if (fun _ => zpc_if (fun _ => zpc_bi (w_fX12_patchByte h) (fun σ5 v6 hσ5 => w_fX12_rate_99 hσ5)) (fun _ => w_fX12_rate_99 h)) (fun _ => zpc_bi (w_fX12_wreg h) (fun σ7 v8 hσ7 => zpc_if (fun _ => zpc_if (fun _ => w_fX12_rate_140 hσ7) (fun _ => zpc_bi (w_fX12_patchByte hσ7) (fun σ9 v10 hσ9 => w_fX12_rate_140 hσ9))) (fun _ => w_fX12_rate_140 hσ7))))))
theorem w_fX12_rate {σ0 : zSt} {σ : zSt} {x1 : Int32} {x2 : Int32} {x3 : Int32} (h : zKeM σ0 σ) : zpc (fX12_rate σ x1 x2 x3) (fun r => zKeM σ0 (r.1)) := by
  unfold fX12_rate
  exact zpc_bi (w_fX12_patchByte h) (fun σ11 v12 hσ11 => zpc_if (fun _ => w_fX12_rate_17 hσ11) (fun _ => w_fX12_rate_17 hσ11))
theorem w_fX12_block {σ0 : zSt} {σ : zSt} {x1 : Int32} (h : zKeM σ0 σ) : zpc (fX12_block σ x1) (fun r => zKeM σ0 (r.1)) := by
  unfold fX12_block
  exact zpc_bi (w_fX12_wreg h) (fun σ1 v2 hσ1 => zpc_some hσ1)
theorem w_fX12_f {σ0 : zSt} {σ : zSt} {x1 : Int32} (h : zKeM σ0 σ) : zpc (fX12_f σ x1) (fun r => zKeM σ0 (r.1)) := by
  unfold fX12_f
  exact zpc_bi (w_fX12_wreg h) (fun σ1 v2 hσ1 => zpc_bi (w_fX12_wreg hσ1) (fun σ3 v4 hσ3 => zpc_some hσ3))
theorem w_fX12_t_40 {σ0 : zSt} {σ : zSt} {s0 : Int32} (h : zKeM σ0 σ) : zpc (fX12_t_40 σ s0) (fun r => zKeM σ0 (r.1)) := by
  unfold fX12_t_40
  exact zpc_some h
theorem w_fX12_t_35 {σ0 : zSt} {σ : zSt} (h : zKeM σ0 σ) : zpc (fX12_t_35 σ) (fun r => zKeM σ0 (r.1)) := by
  unfold fX12_t_35
  exact w_fX12_t_40 h
theorem w_fX12_t_39 {σ0 : zSt} {σ : zSt} (h : zKeM σ0 σ) : zpc (fX12_t_39 σ) (fun r => zKeM σ0 (r.1)) := by
  unfold fX12_t_39
  exact w_fX12_t_40 h
theorem w_fX12_t_19 {σ0 : zSt} {σ : zSt} {x0 : Int32} {x1 : Int32} (h : zKeM σ0 σ) : zpc (fX12_t_19 σ x0 x1) (fun r => zKeM σ0 (r.1)) := by
  unfold fX12_t_19
  exact zpc_if (fun _ => w_fX12_t_39 h) (fun _ => zpc_if (fun _ => w_fX12_t_35 h) (fun _ => zpc_if (fun _ => w_fX12_t_35 h) (fun _ => w_fX12_t_39 h)))
theorem w_fX12_t {σ0 : zSt} {σ : zSt} {x0 : Int32} {x1 : Int32} (h : zKeM σ0 σ) : zpc (fX12_t σ x0 x1) (fun r => zKeM σ0 (r.1)) := by
  unfold fX12_t
  exact zpc_ck (zpc_if (fun _ => w_fX12_t_35 h) (fun _ => zpc_ck (zpc_if (fun _ => zpc_if (fun _ => w_fX12_t_35 h) (fun _ => w_fX12_t_19 h)) (fun _ => w_fX12_t_19 h))))
theorem w_fX12_envelope_275 {σ0 : zSt} {σ : zSt} {s0 : Int32} {s1 : Int32} (h : zKeM σ0 σ) : zpc (fX12_envelope_275 σ s0 s1) (fun r => zKeM σ0 (r)) := by
  unfold fX12_envelope_275
  exact zpc_ck (zpc_bs (zKeM.wi h (by decide)) (fun σ1 hσ1 => zpc_some hσ1))
theorem w_fX12_envelope_259 {σ0 : zSt} {σ : zSt} {x1 : Int32} {x15 : Int32} (h : zKeM σ0 σ) : zpc (fX12_envelope_259 σ x1 x15) (fun r => zKeM σ0 (r)) := by
  unfold fX12_envelope_259
  exact zpc_if (fun _ => w_fX12_envelope_275 h) (fun _ => w_fX12_envelope_275 h)
theorem w_fX12_envelope_220 {σ0 : zSt} {σ : zSt} {x1 : Int32} {s0 : Int32} (h : zKeM σ0 σ) : zpc (fX12_envelope_220 σ x1 s0) (fun r => zKeM σ0 (r)) := by
  unfold fX12_envelope_220
  exact w_fX12_envelope_259 h
theorem w_fX12_envelope_257 {σ0 : zSt} {σ : zSt} {x1 : Int32} {s0 : Int32} (h : zKeM σ0 σ) : zpc (fX12_envelope_257 σ x1 s0) (fun r => zKeM σ0 (r)) := by
  unfold fX12_envelope_257
  exact w_fX12_envelope_259 h
theorem w_fX12_envelope_358 {σ0 : zSt} {σ : zSt} {s0 : Int32} {s1 : Int32} (h : zKeM σ0 σ) : zpc (fX12_envelope_358 σ s0 s1) (fun r => zKeM σ0 (r)) := by
  unfold fX12_envelope_358
  exact zpc_ck (zpc_bs (zKeM.wi h (by decide)) (fun σ2 hσ2 => zpc_some hσ2))
theorem w_fX12_envelope_336 {σ0 : zSt} {σ : zSt} {x1 : Int32} {s0 : Int32} {s1 : Int32} (h : zKeM σ0 σ) : zpc (fX12_envelope_336 σ x1 s0 s1) (fun r => zKeM σ0 (r)) := by
  unfold fX12_envelope_336
  exact zpc_bv (fun v3 _ => zpc_if (fun _ => w_fX12_envelope_358 h) (fun _ => w_fX12_envelope_358 h))
theorem w_fX12_envelope_159 {σ0 : zSt} {σ : zSt} {x1 : Int32} {x4 : Int32} {x7 : Int32} {x8 : Int32} {x9 : Int64} {s0 : Int32} (h : zKeM σ0 σ) : zpc (fX12_envelope_159 σ x1 x4 x7 x8 x9 s0) (fun r => zKeM σ0 (r)) := by
  unfold fX12_envelope_159
  exact zpc_ck (zpc_ck (zpc_bv (fun v4 _ => zpc_ck (zpc_bv (fun v5 _ => zpc_if (fun _ => zpc_if (fun _ => zpc_if (fun _ => w_fX12_envelope_257 h) (fun _ => zpc_bi (w_fX12_t h) (fun σ10 v11 hσ10 => w_fX12_envelope_257 hσ10))) (fun _ => zpc_if (fun _ => zpc_ck (w_fX12_envelope_220 h)) (fun _ => w_fX12_envelope_220 h))) (fun _ => zpc_if (fun _ => zpc_if (fun _ => zpc_ck (zpc_bi (w_fX12_t h) (fun σ8 v9 hσ8 => w_fX12_envelope_336 hσ8))) (fun _ => zpc_if (fun _ => zpc_bi (w_fX12_t h) (fun σ6 v7 hσ6 => w_fX12_envelope_336 hσ6)) (fun _ => w_fX12_envelope_336 h))) (fun _ => w_fX12_envelope_336 h)))))))
theorem w_fX12_envelope_158 {σ0 : zSt} {σ : zSt} {x1 : Int32} {x4 : Int32} {x7 : Int32} {x8 : Int32} {x9 : Int64} (h : zKeM σ0 σ) : zpc (fX12_envelope_158 σ x1 x4 x7 x8 x9) (fun r => zKeM σ0 (r)) := by
  unfold fX12_envelope_158
  exact w_fX12_envelope_159 h
theorem w_fX12_envelope_121 {σ0 : zSt} {σ : zSt} {x1 : Int32} {x4 : Int32} {x7 : Int32} {x8 : Int32} {x9 : Int64} {s0 : Int64} (h : zKeM σ0 σ) : zpc (fX12_envelope_121 σ x1 x4 x7 x8 x9 s0) (fun r => zKeM σ0 (r)) := by
  unfold fX12_envelope_121
  exact zpc_if (fun _ => w_fX12_envelope_158 h) (fun _ => zpc_ck (zpc_if (fun _ => zpc_ck (zpc_ck (zpc_bi (w_fX12_t h) (fun σ12 v13 hσ12 => w_fX12_envelope_159 hσ12)))) (fun _ => w_fX12_envelope_158 h)))
theorem w_fX12_envelope_87 {σ0 : zSt} {σ : zSt} {x1 : Int32} {x4 : Int32} {x6 : Int32} {s0 : Int32} (h : zKeM σ0 σ) : zpc (fX12_envelope_87 σ x1 x4 x6 s0) (fun r => zKeM σ0 (r)) := by
  unfold fX12_envelope_87
  exact zpc_ck (zpc_bv (fun v14 _ => zpc_ck (zpc_bv (fun v15 _ => zpc_if (fun _ => w_fX12_envelope_121 h) (fun _ => w_fX12_envelope_121 h)))))
theorem w_fX12_envelope_63 {σ0 : zSt} {σ : zSt} {x1 : Int32} {x4 : Int32} {x5 : Int32} {x6 : Int32} (h : zKeM σ0 σ) : zpc (fX12_envelope_63 σ x1 x4 x5 x6) (fun r => zKeM σ0 (r)) := by
  unfold fX12_envelope_63
  exact zpc_ck (zpc_if (fun _ => zpc_ck (w_fX12_envelope_87 h)) (fun _ => w_fX12_envelope_87 h))
theorem w_fX12_envelope {σ0 : zSt} {σ : zSt} {x1 : Int32} {x2 : Int32} {x3 : Int32} (h : zKeM σ0 σ) : zpc (fX12_envelope σ x1 x2 x3) (fun r => zKeM σ0 (r)) := by
  unfold fX12_envelope
  exact zpc_ck (zpc_bv (fun v16 _ => zpc_bi (w_fX12_rate h) (fun σ17 v18 hσ17 => zpc_if (fun _ => zpc_some hσ17) (fun _ => zpc_bi (w_fX12_block hσ17) (fun σ19 v20 hσ19 => zpc_bi (w_fX12_f hσ19) (fun σ21 v22 hσ21 => zpc_ck (zpc_bv (fun v23 _ => zpc_bi (w_fX12_patchByte hσ21) (fun σ24 v25 hσ24 => zpc_if (fun _ => zpc_ck (zpc_bv (fun v26 _ => w_fX12_envelope_63 hσ24))) (fun _ => w_fX12_envelope_63 hσ24))))))))))
theorem w_fX12_phase_150 {σ0 : zSt} {σ : zSt} {x1 : Int32} {x2 : Int32} {x5 : Int32} {x6 : Int32} (h : zKeM σ0 σ) : zpc (fX12_phase_150 σ x1 x2 x5 x6) (fun r => zKeM σ0 (r)) := by
  unfold fX12_phase_150
  exact zpc_ck (zpc_bi (w_fX12_f h) (fun σ1 v2 hσ1 => zpc_bi (w_fX12_block hσ1) (fun σ3 v4 hσ3 => zpc_ck (zpc_ck (zpc_bs (zKeM.wi hσ3 (by decide)) (fun σ5 hσ5 => zpc_some hσ5))))))
theorem w_fX12_phase_148 {σ0 : zSt} {σ : zSt} {x1 : Int32} {x2 : Int32} {x5 : Int32} {s0 : Int32} (h : zKeM σ0 σ) : zpc (fX12_phase_148 σ x1 x2 x5 s0) (fun r => zKeM σ0 (r)) := by
  unfold fX12_phase_148
  exact w_fX12_phase_150 h
theorem w_fX12_phase_132 {σ0 : zSt} {σ : zSt} {x1 : Int32} {x2 : Int32} {x5 : Int32} {x7 : Int32} {s0 : Int32} (h : zKeM σ0 σ) : zpc (fX12_phase_132 σ x1 x2 x5 x7 s0) (fun r => zKeM σ0 (r)) := by
  unfold fX12_phase_132
  exact zpc_if (fun _ => w_fX12_phase_148 h) (fun _ => w_fX12_phase_148 h)
theorem w_fX12_phase_60 {σ0 : zSt} {σ : zSt} {x1 : Int32} {x2 : Int32} {x3 : Int32} {s0 : Int32} (h : zKeM σ0 σ) : zpc (fX12_phase_60 σ x1 x2 x3 s0) (fun r => zKeM σ0 (r)) := by
  unfold fX12_phase_60
  exact zpc_bi (w_fX12_patchByte h) (fun σ6 v7 hσ6 => zpc_if (fun _ => w_fX12_phase_150 hσ6) (fun _ => zpc_ck (zpc_ck (zpc_ck (zpc_bv (fun v8 _ => zpc_bi (w_fX12_f hσ6) (fun σ9 v10 hσ9 => zpc_ck (zpc_bv (fun v11 _ => zpc_ck (zpc_if (fun _ => w_fX12_phase_132 hσ9) (fun _ => zpc_ck (zpc_if (fun _ => w_fX12_phase_132 hσ9) (fun _ => zpc_ck (w_fX12_phase_132 hσ9))))))))))))))
theorem w_fX12_phase {σ0 : zSt} {σ : zSt} {x1 : Int32} {x2 : Int32} {x3 : Int32} (h : zKeM σ0 σ) : zpc (fX12_phase σ x1 x2 x3) (fun r => zKeM σ0 (r)) := by
  unfold fX12_phase
  exact zpc_bi (w_fX12_patchByte h) (fun σ12 v13 hσ12 => zpc_bv (fun v14 _ => zpc_if (fun _ => w_fX12_phase_60 hσ12) (fun _ => zpc_if (fun _ => zpc_if (fun _ => w_fX12_phase_60 hσ12) (fun _ => zpc_if (fun _ => w_fX12_phase_60 hσ12) (fun _ => w_fX12_phase_60 hσ12))) (fun _ => w_fX12_phase_60 hσ12))))
theorem w_fX12_drum_191 {σ0 : zSt} {σ : zSt} {s0 : Int32} (h : zKeM σ0 σ) : zpc (fX12_drum_191 σ s0) (fun r => zKeM σ0 (r.1)) := by
  unfold fX12_drum_191
  exact zpc_some h
theorem w_fX12_drum_214 {σ0 : zSt} {σ : zSt} {s0 : Int32} (h : zKeM σ0 σ) : zpc (fX12_drum_214 σ s0) (fun r => zKeM σ0 (r.1)) := by
  unfold fX12_drum_214
  exact zpc_some h
theorem w_fX12_drum_148 {σ0 : zSt} {σ : zSt} {x1 : Int32} {x2 : Int32} {x3 : Int32} {x6 : Int32} {x7 : Int32} (h : zKeM σ0 σ) : zpc (fX12_drum_148 σ x1 x2 x3 x6 x7) (fun r => zKeM σ0 (r.1)) := by
  unfold fX12_drum_148
  exact zpc_if (fun _ => zpc_if (fun _ => zpc_if (fun _ => w_fX12_drum_191 h) (fun _ => w_fX12_drum_191 h)) (fun _ => zpc_if (fun _ => w_fX12_drum_191 h) (fun _ => w_fX12_drum_191 h))) (fun _ => zpc_if (fun _ => w_fX12_drum_214 h) (fun _ => zpc_if (fun _ => w_fX12_drum_214 h) (fun _ => w_fX12_drum_214 h)))
theorem w_fX12_drum_147 {σ0 : zSt} {σ : zSt} {s0 : Int32} (h : zKeM σ0 σ) : zpc (fX12_drum_147 σ s0) (fun r => zKeM σ0 (r.1)) := by
  unfold fX12_drum_147
  exact zpc_some h
theorem w_fX12_drum_100 {σ0 : zSt} {σ : zSt} {x1 : Int32} {x2 : Int32} {x3 : Int32} {x6 : Int32} {s0 : Int32} (h : zKeM σ0 σ) : zpc (fX12_drum_100 σ x1 x2 x3 x6 s0) (fun r => zKeM σ0 (r.1)) := by
  unfold fX12_drum_100
  exact zpc_if (fun _ => zpc_if (fun _ => zpc_if (fun _ => zpc_if (fun _ => w_fX12_drum_147 h) (fun _ => w_fX12_drum_147 h)) (fun _ => zpc_if (fun _ => w_fX12_drum_147 h) (fun _ => w_fX12_drum_147 h))) (fun _ => w_fX12_drum_148 h)) (fun _ => w_fX12_drum_148 h)
theorem w_fX12_drum_79 {σ0 : zSt} {σ : zSt} {x1 : Int32} {x2 : Int32} {x3 : Int32} {s0 : Int32} (h : zKeM σ0 σ) : zpc (fX12_drum_79 σ x1 x2 x3 s0) (fun r => zKeM σ0 (r.1)) := by
  unfold fX12_drum_79
  exact zpc_ck (zpc_if (fun _ => w_fX12_drum_100 h) (fun _ => w_fX12_drum_100 h))
theorem w_fX12_drum_74 {σ0 : zSt} {σ : zSt} {x1 : Int32} {x2 : Int32} {x3 : Int32} (h : zKeM σ0 σ) : zpc (fX12_drum_74 σ x1 x2 x3) (fun r => zKeM σ0 (r.1)) := by
  unfold fX12_drum_74
  exact w_fX12_drum_79 h
theorem w_fX12_drum {σ0 : zSt} {σ : zSt} {x1 : Int32} {x2 : Int32} {x3 : Int32} (h : zKeM σ0 σ) : zpc (fX12_drum σ x1 x2 x3) (fun r => zKeM σ0 (r.1)) := by
  unfold fX12_drum
  exact zpc_ck (zpc_ck (zpc_bv (fun v1 _ => zpc_ck (zpc_ck (zpc_bv (fun v2 _ => zpc_if (fun _ => zpc_if (fun _ => zpc_if (fun _ => w_fX12_drum_79 h) (fun _ => w_fX12_drum_74 h)) (fun _ => w_fX12_drum_74 h)) (fun _ => w_fX12_drum_74 h)))))))
theorem w_fX12_kept_97 {σ0 : zSt} {σ : zSt} {s0 : Int32} (h : zKeM σ0 σ) : zpc (fX12_kept_97 σ s0) (fun r => zKeM σ0 (r.1)) := by
  unfold fX12_kept_97
  exact zpc_some h
theorem w_fX12_kept {σ0 : zSt} {σ : zSt} {x0 : Int32} (h : zKeM σ0 σ) : zpc (fX12_kept σ x0) (fun r => zKeM σ0 (r.1)) := by
  unfold fX12_kept
  exact zpc_if (fun _ => w_fX12_kept_97 h) (fun _ => zpc_if (fun _ => w_fX12_kept_97 h) (fun _ => zpc_if (fun _ => w_fX12_kept_97 h) (fun _ => zpc_if (fun _ => w_fX12_kept_97 h) (fun _ => zpc_if (fun _ => w_fX12_kept_97 h) (fun _ => zpc_if (fun _ => w_fX12_kept_97 h) (fun _ => zpc_if (fun _ => w_fX12_kept_97 h) (fun _ => zpc_if (fun _ => w_fX12_kept_97 h) (fun _ => zpc_if (fun _ => w_fX12_kept_97 h) (fun _ => w_fX12_kept_97 h)))))))))
theorem w_fX12_waveAt_376 {σ0 : zSt} {σ : zSt} {s0 : Int32} (h : zKeM σ0 σ) : zpc (fX12_waveAt_376 σ s0) (fun r => zKeM σ0 (r.1)) := by
  unfold fX12_waveAt_376
  exact zpc_some h
theorem w_fX12_waveAt_296 {σ0 : zSt} {σ : zSt} {x2 : Int32} {x3 : Int32} {x4 : Int32} {x5 : Int32} {s0 : Int32} (h : zKeM σ0 σ) : zpc (fX12_waveAt_296 σ x2 x3 x4 x5 s0) (fun r => zKeM σ0 (r.1)) := by
  unfold fX12_waveAt_296
  exact zpc_ck (zpc_bv (fun v1 _ => zpc_ck (zpc_ck (zpc_ck (zpc_bv (fun v2 _ => zpc_if (fun _ => zpc_some h) (fun _ => zpc_bi (w_fX12_patchByte h) (fun σ3 v4 hσ3 => zpc_if (fun _ => w_fX12_waveAt_376 hσ3) (fun _ => w_fX12_waveAt_376 hσ3)))))))))
theorem w_fX12_waveAt_263 {σ0 : zSt} {σ : zSt} {x1 : Int32} {x2 : Int32} {x3 : Int32} {x4 : Int32} {x5 : Int32} {x8 : Int32} {x11 : Int32} {s0 : Int32} (h : zKeM σ0 σ) : zpc (fX12_waveAt_263 σ x1 x2 x3 x4 x5 x8 x11 s0) (fun r => zKeM σ0 (r.1)) := by
  unfold fX12_waveAt_263
  exact zpc_ck (zpc_bv (fun v5 _ => zpc_if (fun _ => w_fX12_waveAt_296 h) (fun _ => w_fX12_waveAt_296 h)))
theorem w_fX12_waveAt_260 {σ0 : zSt} {σ : zSt} {x1 : Int32} {x2 : Int32} {x3 : Int32} {x4 : Int32} {x5 : Int32} {x8 : Int32} {x11 : Int32} {s0 : Int32} (h : zKeM σ0 σ) : zpc (fX12_waveAt_260 σ x1 x2 x3 x4 x5 x8 x11 s0) (fun r => zKeM σ0 (r.1)) := by
  unfold fX12_waveAt_260
  exact zpc_ck (w_fX12_waveAt_263 h)
theorem w_fX12_waveAt_206 {σ0 : zSt} {σ : zSt} {x1 : Int32} {x2 : Int32} {x3 : Int32} {x4 : Int32} {x5 : Int32} {x8 : Int32} {s0 : Int32} (h : zKeM σ0 σ) : zpc (fX12_waveAt_206 σ x1 x2 x3 x4 x5 x8 s0) (fun r => zKeM σ0 (r.1)) := by
  unfold fX12_waveAt_206
  exact zpc_ck (zpc_ck (zpc_ck (zpc_bv (fun v6 _ => zpc_bi (w_fX12_patchByte h) (fun σ7 v8 hσ7 => zpc_if (fun _ => w_fX12_waveAt_263 hσ7) (fun _ => zpc_if (fun _ => w_fX12_waveAt_260 hσ7) (fun _ => w_fX12_waveAt_260 hσ7)))))))
theorem w_fX12_waveAt_192 {σ0 : zSt} {σ : zSt} {x1 : Int32} {x2 : Int32} {x3 : Int32} {x4 : Int32} {x5 : Int32} {x8 : Int32} {x9 : Int32} (h : zKeM σ0 σ) : zpc (fX12_waveAt_192 σ x1 x2 x3 x4 x5 x8 x9) (fun r => zKeM σ0 (r.1)) := by
  unfold fX12_waveAt_192
  exact zpc_ck (zpc_ck (w_fX12_waveAt_206 h))
theorem w_fX12_waveAt_123 {σ0 : zSt} {σ : zSt} {x1 : Int32} {x2 : Int32} {x3 : Int32} {x4 : Int32} {x5 : Int32} {s0 : Int32} (h : zKeM σ0 σ) : zpc (fX12_waveAt_123 σ x1 x2 x3 x4 x5 s0) (fun r => zKeM σ0 (r.1)) := by
  unfold fX12_waveAt_123
  exact zpc_bi (w_fX12_patchByte h) (fun σ9 v10 hσ9 => zpc_bv (fun v11 _ => zpc_bi (w_fX12_wreg hσ9) (fun σ12 v13 hσ12 => zpc_bv (fun v14 _ => zpc_if (fun _ => w_fX12_waveAt_206 hσ12) (fun _ => zpc_bi (w_fX12_isRhythm hσ12) (fun σ15 v16 hσ15 => zpc_if (fun _ => w_fX12_waveAt_192 hσ15) (fun _ => zpc_if (fun _ => w_fX12_waveAt_192 hσ15) (fun _ => zpc_bi (w_fX12_wreg hσ15) (fun σ17 v18 hσ17 => w_fX12_waveAt_206 hσ17)))))))))
theorem w_fX12_waveAt_91 {σ0 : zSt} {σ : zSt} {x1 : Int32} {x2 : Int32} {x3 : Int32} {x4 : Int32} {x5 : Int32} (h : zKeM σ0 σ) : zpc (fX12_waveAt_91 σ x1 x2 x3 x4 x5) (fun r => zKeM σ0 (r.1)) := by
  unfold fX12_waveAt_91
  exact w_fX12_waveAt_123 h
theorem w_fX12_waveAt_41 {σ0 : zSt} {σ : zSt} {x1 : Int32} {x2 : Int32} {x3 : Int32} {x4 : Int32} {s0 : Int32} (h : zKeM σ0 σ) : zpc (fX12_waveAt_41 σ x1 x2 x3 x4 s0) (fun r => zKeM σ0 (r.1)) := by
  unfold fX12_waveAt_41
  exact zpc_bi (w_fX12_patchByte h) (fun σ19 v20 hσ19 => zpc_bv (fun v21 _ => zpc_bi (w_fX12_f hσ19) (fun σ22 v23 hσ22 => zpc_ck (zpc_bi (w_fX12_kept hσ22) (fun σ24 v25 hσ24 => zpc_bi (w_fX12_block hσ24) (fun σ26 v27 hσ26 => zpc_bv (fun v28 _ => zpc_if (fun _ => w_fX12_waveAt_91 hσ26) (fun _ => zpc_if (fun _ => w_fX12_waveAt_91 hσ26) (fun _ => zpc_if (fun _ => zpc_ck (w_fX12_waveAt_123 hσ26)) (fun _ => zpc_if (fun _ => zpc_ck (w_fX12_waveAt_123 hσ26)) (fun _ => w_fX12_waveAt_123 hσ26)))))))))))
theorem w_fX12_waveAt {σ0 : zSt} {σ : zSt} {x1 : Int32} {x2 : Int32} {x3 : Int32} {x4 : Int32} (h : zKeM σ0 σ) : zpc (fX12_waveAt σ x1 x2 x3 x4) (fun r => zKeM σ0 (r.1)) := by
  unfold fX12_waveAt
  exact zpc_ck (zpc_if (fun _ => zpc_if (fun _ => zpc_ck (w_fX12_waveAt_41 h)) (fun _ => zpc_ck (w_fX12_waveAt_41 h))) (fun _ => zpc_some h))
theorem w_fX12_operator_319 {σ0 : zSt} {σ : zSt} {x1 : Int32} {x2 : Int32} {x3 : Int32} {x5 : Int32} {x8 : Int32} (h : zKeM σ0 σ) : zpc (fX12_operator_319 σ x1 x2 x3 x5 x8) (fun r => zKeM σ0 (r)) := by
  unfold fX12_operator_319
  exact zpc_ck (zpc_bs (zKeM.wi h (by decide)) (fun σ1 hσ1 => zpc_bi (w_fX12_waveAt hσ1) (fun σ2 v3 hσ2 => zpc_ck (zpc_bs (zKeM.wi hσ2 (by decide)) (fun σ4 hσ4 => zpc_some hσ4)))))
theorem w_fX12_operator_266 {σ0 : zSt} {σ : zSt} {x1 : Int32} {x2 : Int32} {x3 : Int32} {x5 : Int32} {s0 : Int32} (h : zKeM σ0 σ) : zpc (fX12_operator_266 σ x1 x2 x3 x5 s0) (fun r => zKeM σ0 (r)) := by
  unfold fX12_operator_266
  exact zpc_ck (zpc_ck (zpc_bv (fun v5 _ => zpc_bi (w_fX12_isRhythm h) (fun σ6 v7 hσ6 => zpc_if (fun _ => w_fX12_operator_319 hσ6) (fun _ => zpc_if (fun _ => w_fX12_operator_319 hσ6) (fun _ => zpc_ck (zpc_ck (zpc_bi (w_fX12_drum hσ6) (fun σ8 v9 hσ8 => w_fX12_operator_319 hσ8)))))))))
theorem w_fX12_operator_190 {σ0 : zSt} {σ : zSt} {x1 : Int32} {x2 : Int32} {x3 : Int32} (h : zKeM σ0 σ) : zpc (fX12_operator_190 σ x1 x2 x3) (fun r => zKeM σ0 (r)) := by
  unfold fX12_operator_190
  exact zpc_bu (w_fX12_phase h) (fun σ10 hσ10 => zpc_ck (zpc_bv (fun v11 _ => zpc_bi (w_fX12_patchByte hσ10) (fun σ12 v13 hσ12 => zpc_bv (fun v14 _ => zpc_if (fun _ => zpc_ck (w_fX12_operator_266 hσ12)) (fun _ => zpc_if (fun _ => w_fX12_operator_266 hσ12) (fun _ => zpc_ck (zpc_ck (w_fX12_operator_266 hσ12)))))))))
theorem w_fX12_operator_146 {σ0 : zSt} {σ : zSt} {x1 : Int32} {x2 : Int32} {x3 : Int32} (h : zKeM σ0 σ) : zpc (fX12_operator_146 σ x1 x2 x3) (fun r => zKeM σ0 (r)) := by
  unfold fX12_operator_146
  exact zpc_ck (zpc_if (fun _ => zpc_ck (zpc_ck (zpc_bi (w_fX12_patchByte h) (fun σ15 v16 hσ15 => zpc_if (fun _ => w_fX12_operator_190 hσ15) (fun _ => zpc_ck (zpc_bs (zKeM.wi hσ15 (by decide)) (fun σ17 hσ17 => w_fX12_operator_190 hσ17))))))) (fun _ => w_fX12_operator_190 h))
theorem w_fX12_operator_113 {σ0 : zSt} {σ : zSt} {x1 : Int32} {x2 : Int32} {x3 : Int32} (h : zKeM σ0 σ) : zpc (fX12_operator_113 σ x1 x2 x3) (fun r => zKeM σ0 (r)) := by
  unfold fX12_operator_113
  exact zpc_ck (zpc_if (fun _ => zpc_ck (zpc_if (fun _ => zpc_ck (zpc_bs (zKeM.wi h (by decide)) (fun σ18 hσ18 => w_fX12_operator_190 hσ18))) (fun _ => w_fX12_operator_146 h))) (fun _ => w_fX12_operator_146 h))
theorem w_fX12_operator_53 {σ0 : zSt} {σ : zSt} {x1 : Int32} {x2 : Int32} {x3 : Int32} {x4 : Int32} (h : zKeM σ0 σ) : zpc (fX12_operator_53 σ x1 x2 x3 x4) (fun r => zKeM σ0 (r)) := by
  unfold fX12_operator_53
  exact zpc_ck (zpc_bs (zKeM.wi h (by decide)) (fun σ19 hσ19 => zpc_bu (w_fX12_envelope hσ19) (fun σ20 hσ20 => zpc_ck (zpc_if (fun _ => zpc_ck (zpc_if (fun _ => w_fX12_operator_113 hσ20) (fun _ => zpc_ck (zpc_bs (zKeM.wi hσ20 (by decide)) (fun σ21 hσ21 => zpc_ck (zpc_bs (zKeM.wi hσ21 (by decide)) (fun σ22 hσ22 => w_fX12_operator_190 hσ22))))))) (fun _ => w_fX12_operator_113 hσ20)))))
theorem w_fX12_operator_52 {σ0 : zSt} {σ : zSt} {x1 : Int32} {x2 : Int32} {x3 : Int32} {x4 : Int32} {s0 : Int32} {s1 : Int32} (h : zKeM σ0 σ) : zpc (fX12_operator_52 σ x1 x2 x3 x4 s0 s1) (fun r => zKeM σ0 (r)) := by
  unfold fX12_operator_52
  exact zpc_ck (zpc_bs (zKeM.wi h (by decide)) (fun σ23 hσ23 => w_fX12_operator_53 hσ23))
theorem w_fX12_operator {σ0 : zSt} {σ : zSt} {x1 : Int32} {x2 : Int32} (h : zKeM σ0 σ) : zpc (fX12_operator σ x1 x2) (fun r => zKeM σ0 (r)) := by
  unfold fX12_operator
  exact zpc_bv (fun v24 _ => zpc_bi (w_fX12_isOn h) (fun σ25 v26 hσ25 => zpc_ck (zpc_if (fun _ => w_fX12_operator_53 hσ25) (fun _ => zpc_if (fun _ => w_fX12_operator_52 hσ25) (fun _ => w_fX12_operator_52 hσ25)))))
theorem w_fX12_waves_20_body {σ0 : zSt} {k12 : zSt → Int32 → Option (zSt)} (hk12 : ∀ (y0 : zSt) (y1 : Int32), zKeM σ0 y0 → zpc (k12 y0 y1) (fun r => zKeM σ0 (r))) {k20 : zSt → Int32 → Int32 → Option (zSt)} (hk20 : ∀ (y0 : zSt) (y1 : Int32) (y2 : Int32), zKeM σ0 y0 → zpc (k20 y0 y1 y2) (fun r => zKeM σ0 (r))) {σ : zSt} {x1 : Int32} {x2 : Int32} (h : zKeM σ0 σ) : zpc (fX12_waves_20_body k12 k20 σ x1 x2) (fun r => zKeM σ0 (r)) := by
  unfold fX12_waves_20_body
  exact zpc_if (fun _ => zpc_bv (fun v1 _ => hk12 _ _ h)) (fun _ => zpc_bu (w_fX12_operator h) (fun σ2 hσ2 => zpc_bv (fun v3 _ => hk20 _ _ _ hσ2)))
theorem w_fX12_waves_20 {σ0 : zSt} {k12 : zSt → Int32 → Option (zSt)} (hk12 : ∀ (y0 : zSt) (y1 : Int32), zKeM σ0 y0 → zpc (k12 y0 y1) (fun r => zKeM σ0 (r))) : ∀ (n : Nat) (y0 : zSt) (y1 : Int32) (y2 : Int32), zKeM σ0 y0 → zpc (fX12_waves_20 k12 n y0 y1 y2) (fun r => zKeM σ0 (r)) := by
  intro n
  induction n with
  | zero => intro y0 y1 y2 h; exact zpc_none
  | succ n ih => intro y0 y1 y2 h; exact w_fX12_waves_20_body hk12 ih h
theorem w_fX12_waves_157 {σ0 : zSt} {k82 : zSt → Int32 → Int32 → Option (zSt)} (hk82 : ∀ (y0 : zSt) (y1 : Int32) (y2 : Int32), zKeM σ0 y0 → zpc (k82 y0 y1 y2) (fun r => zKeM σ0 (r))) {σ : zSt} {x2 : Int32} {x3 : Int32} (h : zKeM σ0 σ) : zpc (fX12_waves_157 k82 σ x2 x3) (fun r => zKeM σ0 (r)) := by
  unfold fX12_waves_157
  exact zpc_bv (fun v4 _ => hk82 _ _ _ h)
theorem w_fX12_waves_153 {σ0 : zSt} {k82 : zSt → Int32 → Int32 → Option (zSt)} (hk82 : ∀ (y0 : zSt) (y1 : Int32) (y2 : Int32), zKeM σ0 y0 → zpc (k82 y0 y1 y2) (fun r => zKeM σ0 (r))) {σ : zSt} {x3 : Int32} {s0 : Int32} {s1 : Int32} {s2 : Int32} {s3 : Int32} (h : zKeM σ0 σ) : zpc (fX12_waves_153 k82 σ x3 s0 s1 s2 s3) (fun r => zKeM σ0 (r)) := by
  unfold fX12_waves_153
  exact zpc_bv (fun v5 _ => w_fX12_waves_157 hk82 h)
theorem w_fX12_waves_82_body {σ0 : zSt} {k82 : zSt → Int32 → Int32 → Option (zSt)} (hk82 : ∀ (y0 : zSt) (y1 : Int32) (y2 : Int32), zKeM σ0 y0 → zpc (k82 y0 y1 y2) (fun r => zKeM σ0 (r))) {σ : zSt} {x2 : Int32} {x3 : Int32} (h : zKeM σ0 σ) : zpc (fX12_waves_82_body k82 σ x2 x3) (fun r => zKeM σ0 (r)) := by
  unfold fX12_waves_82_body
  exact zpc_if (fun _ => zpc_ck (zpc_bs (zKeM.wi h (by decide)) (fun σ6 hσ6 => zpc_some hσ6))) (fun _ => zpc_bv (fun v7 _ => zpc_bi (w_fX12_isRhythm h) (fun σ8 v9 hσ8 => zpc_if (fun _ => zpc_ck (zpc_bv (fun v10 _ => w_fX12_waves_157 hk82 hσ8))) (fun _ => zpc_ck (zpc_if (fun _ => w_fX12_waves_153 hk82 hσ8) (fun _ => zpc_ck (w_fX12_waves_153 hk82 hσ8)))))))
theorem w_fX12_waves_82 {σ0 : zSt} : ∀ (n : Nat) (y0 : zSt) (y1 : Int32) (y2 : Int32), zKeM σ0 y0 → zpc (fX12_waves_82 n y0 y1 y2) (fun r => zKeM σ0 (r)) := by
  intro n
  induction n with
  | zero => intro y0 y1 y2 h; exact zpc_none
  | succ n ih => intro y0 y1 y2 h; exact w_fX12_waves_82_body ih h
theorem w_fX12_waves_75 {σ0 : zSt} {σ : zSt} {s0 : Int32} {s1 : Int32} (h : zKeM σ0 σ) : zpc (fX12_waves_75 σ s0 s1) (fun r => zKeM σ0 (r)) := by
  unfold fX12_waves_75
  exact zpc_ck (zpc_bs (zKeM.wi h (by decide)) (fun σ11 hσ11 => w_fX12_waves_82 _ _ _ _ hσ11))
theorem w_fX12_waves_12_body {σ0 : zSt} {k12 : zSt → Int32 → Option (zSt)} (hk12 : ∀ (y0 : zSt) (y1 : Int32), zKeM σ0 y0 → zpc (k12 y0 y1) (fun r => zKeM σ0 (r))) {σ : zSt} {x1 : Int32} (h : zKeM σ0 σ) : zpc (fX12_waves_12_body k12 σ x1) (fun r => zKeM σ0 (r)) := by
  unfold fX12_waves_12_body
  exact zpc_if (fun _ => zpc_ck (zpc_bv (fun v12 _ => zpc_if (fun _ => w_fX12_waves_75 h) (fun _ => w_fX12_waves_75 h)))) (fun _ => w_fX12_waves_20 hk12 _ _ _ _ h)
theorem w_fX12_waves_12 {σ0 : zSt} : ∀ (n : Nat) (y0 : zSt) (y1 : Int32), zKeM σ0 y0 → zpc (fX12_waves_12 n y0 y1) (fun r => zKeM σ0 (r)) := by
  intro n
  induction n with
  | zero => intro y0 y1 h; exact zpc_none
  | succ n ih => intro y0 y1 h; exact w_fX12_waves_12_body ih h
theorem w_fX12_waves {σ0 : zSt} {σ : zSt} (h : zKeM σ0 σ) : zpc (fX12_waves σ) (fun r => zKeM σ0 (r)) := by
  unfold fX12_waves
  exact zpc_ck (zpc_ck (zpc_bs (zKeM.wl h) (fun σ13 hσ13 => w_fX12_waves_12 _ _ _ hσ13)))
theorem w_fX12_mixed_151 {σ0 : zSt} {σ : zSt} {x2 : Int64} (h : zKeM σ0 σ) : zpc (fX12_mixed_151 σ x2) (fun r => zKeM σ0 (r)) := by
  unfold fX12_mixed_151
  exact zpc_ck (zpc_ck (zpc_ck (zpc_ck (zpc_bs (zKeM.wl h) (fun σ1 hσ1 => zpc_some hσ1)))))
theorem w_fX12_mixed_76_body {σ0 : zSt} {k76 : zSt → Int64 → Int32 → Option (zSt)} (hk76 : ∀ (y0 : zSt) (y1 : Int64) (y2 : Int32), zKeM σ0 y0 → zpc (k76 y0 y1 y2) (fun r => zKeM σ0 (r))) {σ : zSt} {x2 : Int64} {x4 : Int32} (h : zKeM σ0 σ) : zpc (fX12_mixed_76_body k76 σ x2 x4) (fun r => zKeM σ0 (r)) := by
  unfold fX12_mixed_76_body
  exact zpc_if (fun _ => zpc_ck (zpc_if (fun _ => zpc_ck (zpc_ck (zpc_ck (zpc_bs (zKeM.wi h (by decide)) (fun σ3 hσ3 => w_fX12_mixed_151 hσ3))))) (fun _ => zpc_ck (zpc_ck (zpc_bs (zKeM.wi h (by decide)) (fun σ2 hσ2 => w_fX12_mixed_151 hσ2)))))) (fun _ => zpc_ck (zpc_bs (zKeM.wi h (by decide)) (fun σ4 hσ4 => zpc_bv (fun v5 _ => hk76 _ _ _ hσ4))))
theorem w_fX12_mixed_76 {σ0 : zSt} : ∀ (n : Nat) (y0 : zSt) (y1 : Int64) (y2 : Int32), zKeM σ0 y0 → zpc (fX12_mixed_76 n y0 y1 y2) (fun r => zKeM σ0 (r)) := by
  intro n
  induction n with
  | zero => intro y0 y1 y2 h; exact zpc_none
  | succ n ih => intro y0 y1 y2 h; exact w_fX12_mixed_76_body ih h
theorem w_fX12_mixed_26 {σ0 : zSt} {σ : zSt} {s0 : Int32} (h : zKeM σ0 σ) : zpc (fX12_mixed_26 σ s0) (fun r => zKeM σ0 (r)) := by
  unfold fX12_mixed_26
  exact zpc_ck (zpc_ck (zpc_ck (zpc_ck (zpc_ck (zpc_ck (zpc_bv (fun v6 _ => w_fX12_mixed_76 _ _ _ _ h)))))))
theorem w_fX12_mixed {σ0 : zSt} {σ : zSt} (h : zKeM σ0 σ) : zpc (fX12_mixed σ) (fun r => zKeM σ0 (r)) := by
  unfold fX12_mixed
  exact zpc_ck (zpc_if (fun _ => zpc_ck (w_fX12_mixed_26 h)) (fun _ => w_fX12_mixed_26 h))
theorem w_fX12_asks_48 {σ0 : zSt} {σ : zSt} {s0 : Int32} (h : zKeM σ0 σ) : zpc (fX12_asks_48 σ s0) (fun r => zKeM σ0 (r.1)) := by
  unfold fX12_asks_48
  exact zpc_ck (zpc_some h)
theorem w_fX12_asks_47 {σ0 : zSt} {σ : zSt} (h : zKeM σ0 σ) : zpc (fX12_asks_47 σ) (fun r => zKeM σ0 (r.1)) := by
  unfold fX12_asks_47
  exact w_fX12_asks_48 h
theorem w_fX12_asks_43 {σ0 : zSt} {σ : zSt} (h : zKeM σ0 σ) : zpc (fX12_asks_43 σ) (fun r => zKeM σ0 (r.1)) := by
  unfold fX12_asks_43
  exact w_fX12_asks_48 h
theorem w_fX12_asks_22 {σ0 : zSt} {σ : zSt} (h : zKeM σ0 σ) : zpc (fX12_asks_22 σ) (fun r => zKeM σ0 (r.1)) := by
  unfold fX12_asks_22
  exact zpc_bi (w_fX12_bit h) (fun σ1 v2 hσ1 => zpc_if (fun _ => zpc_ck (zpc_if (fun _ => w_fX12_asks_43 hσ1) (fun _ => w_fX12_asks_47 hσ1))) (fun _ => w_fX12_asks_47 hσ1))
theorem w_fX12_asks {σ0 : zSt} {σ : zSt} (h : zKeM σ0 σ) : zpc (fX12_asks σ) (fun r => zKeM σ0 (r.1)) := by
  unfold fX12_asks
  exact zpc_bi (w_fX12_bit h) (fun σ3 v4 hσ3 => zpc_if (fun _ => zpc_ck (zpc_if (fun _ => w_fX12_asks_43 hσ3) (fun _ => w_fX12_asks_22 hσ3))) (fun _ => w_fX12_asks_22 hσ3))
theorem w_fX12_once_377_body {σ0 : zSt} {k377 : zSt → Int64 → Option (zSt)} (hk377 : ∀ (y0 : zSt) (y1 : Int64), zKeM σ0 y0 → zpc (k377 y0 y1) (fun r => zKeM σ0 (r))) {σ : zSt} {x5 : Int64} (h : zKeM σ0 σ) : zpc (fX12_once_377_body k377 σ x5) (fun r => zKeM σ0 (r)) := by
  unfold fX12_once_377_body
  exact zpc_ck (zpc_ck (zpc_if (fun _ => zpc_some h) (fun _ => zpc_bu (w_fX12_mixed h) (fun σ1 hσ1 => zpc_bv (fun v2 _ => hk377 _ _ hσ1)))))
theorem w_fX12_once_377 {σ0 : zSt} : ∀ (n : Nat) (y0 : zSt) (y1 : Int64), zKeM σ0 y0 → zpc (fX12_once_377 n y0 y1) (fun r => zKeM σ0 (r)) := by
  intro n
  induction n with
  | zero => intro y0 y1 h; exact zpc_none
  | succ n ih => intro y0 y1 h; exact w_fX12_once_377_body ih h
theorem w_fX12_once_341_body {σ0 : zSt} {k341 : zSt → Int64 → Int64 → Option (zSt)} (hk341 : ∀ (y0 : zSt) (y1 : Int64) (y2 : Int64), zKeM σ0 y0 → zpc (k341 y0 y1 y2) (fun r => zKeM σ0 (r))) {σ : zSt} {x3 : Int64} {x5 : Int64} (h : zKeM σ0 σ) : zpc (fX12_once_341_body k341 σ x3 x5) (fun r => zKeM σ0 (r)) := by
  unfold fX12_once_341_body
  exact zpc_ck (zpc_ck (zpc_if (fun _ => zpc_ck (zpc_bv (fun v3 _ => w_fX12_once_377 _ _ _ h))) (fun _ => zpc_bu (w_fX12_waves h) (fun σ4 hσ4 => zpc_bv (fun v5 _ => hk341 _ _ _ hσ4)))))
theorem w_fX12_once_341 {σ0 : zSt} : ∀ (n : Nat) (y0 : zSt) (y1 : Int64) (y2 : Int64), zKeM σ0 y0 → zpc (fX12_once_341 n y0 y1 y2) (fun r => zKeM σ0 (r)) := by
  intro n
  induction n with
  | zero => intro y0 y1 y2 h; exact zpc_none
  | succ n ih => intro y0 y1 y2 h; exact w_fX12_once_341_body ih h
theorem w_fX12_once_305_body {σ0 : zSt} {k305 : zSt → Int64 → Int64 → Option (zSt)} (hk305 : ∀ (y0 : zSt) (y1 : Int64) (y2 : Int64), zKeM σ0 y0 → zpc (k305 y0 y1 y2) (fun r => zKeM σ0 (r))) {σ : zSt} {x3 : Int64} {x5 : Int64} (h : zKeM σ0 σ) : zpc (fX12_once_305_body k305 σ x3 x5) (fun r => zKeM σ0 (r)) := by
  unfold fX12_once_305_body
  exact zpc_ck (zpc_ck (zpc_if (fun _ => zpc_ck (zpc_bv (fun v6 _ => w_fX12_once_341 _ _ _ _ h))) (fun _ => zpc_bu (w_fX12_sample h) (fun σ7 hσ7 => zpc_bv (fun v8 _ => hk305 _ _ _ hσ7)))))
theorem w_fX12_once_305 {σ0 : zSt} : ∀ (n : Nat) (y0 : zSt) (y1 : Int64) (y2 : Int64), zKeM σ0 y0 → zpc (fX12_once_305 n y0 y1 y2) (fun r => zKeM σ0 (r)) := by
  intro n
  induction n with
  | zero => intro y0 y1 y2 h; exact zpc_none
  | succ n ih => intro y0 y1 y2 h; exact w_fX12_once_305_body ih h
theorem w_fX12_once_298 {σ0 : zSt} {σ : zSt} {x3 : Int64} (h : zKeM σ0 σ) : zpc (fX12_once_298 σ x3) (fun r => zKeM σ0 (r)) := by
  unfold fX12_once_298
  exact zpc_ck (zpc_bv (fun v9 _ => w_fX12_once_305 _ _ _ _ h))
theorem w_fX12_once_229 {σ0 : zSt} {σ : zSt} {x2 : Int32} (h : zKeM σ0 σ) : zpc (fX12_once_229 σ x2) (fun r => zKeM σ0 (r)) := by
  unfold fX12_once_229
  exact zpc_ck (zpc_ck (zpc_bs (zKeM.wl h) (fun σ10 hσ10 => zpc_ck (zpc_bv (fun v11 _ => zpc_ck (zpc_ck (zpc_bs (zKeM.wl hσ10) (fun σ12 hσ12 => zpc_ck (zpc_ck (zpc_bs (zKeM.wi hσ12 (by decide)) (fun σ13 hσ13 => zpc_ck (zpc_if (fun _ => w_fX12_once_298 hσ13) (fun _ => zpc_ck (zpc_ck (zpc_bs (zKeM.wi hσ13 (by decide)) (fun σ14 hσ14 => zpc_bu (w_fX12_ends hσ14) (fun σ15 hσ15 => w_fX12_once_298 hσ15)))))))))))))))))
theorem w_fX12_once_204 {σ0 : zSt} {σ : zSt} (h : zKeM σ0 σ) : zpc (fX12_once_204 σ) (fun r => zKeM σ0 (r)) := by
  unfold fX12_once_204
  exact zpc_ck (zpc_if (fun _ => zpc_bu (w_fX12_grows h) (fun σ18 hσ18 => w_fX12_once_229 hσ18)) (fun _ => zpc_bi (w_fX12_instruction h) (fun σ16 v17 hσ16 => w_fX12_once_229 hσ16)))
theorem w_fX12_once_200 {σ0 : zSt} {σ : zSt} {s0 : Int32} (h : zKeM σ0 σ) : zpc (fX12_once_200 σ s0) (fun r => zKeM σ0 (r)) := by
  unfold fX12_once_200
  exact w_fX12_once_229 h
theorem w_fX12_once_179 {σ0 : zSt} {σ : zSt} {s0 : Int32} (h : zKeM σ0 σ) : zpc (fX12_once_179 σ s0) (fun r => zKeM σ0 (r)) := by
  unfold fX12_once_179
  exact zpc_bu (w_fX12_call h) (fun σ19 hσ19 => zpc_ck (zpc_if (fun _ => w_fX12_once_200 hσ19) (fun _ => w_fX12_once_200 hσ19)))
theorem w_fX12_once_102 {σ0 : zSt} {σ : zSt} {x1 : Int32} (h : zKeM σ0 σ) : zpc (fX12_once_102 σ x1) (fun r => zKeM σ0 (r)) := by
  unfold fX12_once_102
  exact zpc_ck (zpc_if (fun _ => zpc_if (fun _ => w_fX12_once_204 h) (fun _ => zpc_bi (w_fX12_asks h) (fun σ20 v21 hσ20 => zpc_if (fun _ => w_fX12_once_204 hσ20) (fun _ => zpc_ck (zpc_bs (zKeM.wi hσ20 (by decide)) (fun σ22 hσ22 => zpc_ck (zpc_bs (zKeM.wi hσ22 (by decide)) (fun σ23 hσ23 => zpc_bu (w_fX12_answers hσ23) (fun σ24 hσ24 => zpc_ck (zpc_if (fun _ => zpc_ck (zpc_bi (w_fX12_word hσ24) (fun σ25 v26 hσ25 => w_fX12_once_179 hσ25))) (fun _ => w_fX12_once_179 hσ24))))))))))) (fun _ => w_fX12_once_204 h))
theorem w_fX12_once_46 {σ0 : zSt} {σ : zSt} {s0 : Int32} (h : zKeM σ0 σ) : zpc (fX12_once_46 σ s0) (fun r => zKeM σ0 (r)) := by
  unfold fX12_once_46
  exact zpc_ck (zpc_bs (zKeM.wi h (by decide)) (fun σ27 hσ27 => zpc_ck (zpc_if (fun _ => zpc_if (fun _ => w_fX12_once_102 hσ27) (fun _ => zpc_ck (zpc_bs (zKeM.wi hσ27 (by decide)) (fun σ28 hσ28 => zpc_ck (zpc_bs (zKeM.wi hσ28 (by decide)) (fun σ29 hσ29 => zpc_bu (w_fX12_answers hσ29) (fun σ30 hσ30 => zpc_bu (w_fX12_call hσ30) (fun σ31 hσ31 => w_fX12_once_229 hσ31)))))))) (fun _ => w_fX12_once_102 hσ27))))
theorem w_fX12_once {σ0 : zSt} {σ : zSt} (h : zKeM σ0 σ) : zpc (fX12_once σ) (fun r => zKeM σ0 (r)) := by
  unfold fX12_once
  exact zpc_ck (zpc_ck (zpc_ck (zpc_bs (zKeM.wi h (by decide)) (fun σ32 hσ32 => zpc_bs (zKeM.wl hσ32) (fun σ33 hσ33 => zpc_ck (zpc_if (fun _ => w_fX12_once_46 hσ33) (fun _ => w_fX12_once_46 hσ33)))))))
theorem w_fX12_isStop_2_body {σ0 : zSt} {k2 : zSt → Int32 → Int32 → Option (zSt × Int32)} (hk2 : ∀ (y0 : zSt) (y1 : Int32) (y2 : Int32), zKeM σ0 y0 → zpc (k2 y0 y1 y2) (fun r => zKeM σ0 (r.1))) {σ : zSt} {x1 : Int32} {x2 : Int32} (h : zKeM σ0 σ) : zpc (fX12_isStop_2_body k2 σ x1 x2) (fun r => zKeM σ0 (r.1)) := by
  unfold fX12_isStop_2_body
  exact zpc_ck (zpc_if (fun _ => zpc_ck (zpc_some h)) (fun _ => zpc_ck (zpc_if (fun _ => zpc_ck (zpc_some h)) (fun _ => zpc_bv (fun v1 _ => hk2 _ _ _ h)))))
theorem w_fX12_isStop_2 {σ0 : zSt} : ∀ (n : Nat) (y0 : zSt) (y1 : Int32) (y2 : Int32), zKeM σ0 y0 → zpc (fX12_isStop_2 n y0 y1 y2) (fun r => zKeM σ0 (r.1)) := by
  intro n
  induction n with
  | zero => intro y0 y1 y2 h; exact zpc_none
  | succ n ih => intro y0 y1 y2 h; exact w_fX12_isStop_2_body ih h
theorem w_fX12_isStop {σ0 : zSt} {σ : zSt} {x1 : Int32} (h : zKeM σ0 σ) : zpc (fX12_isStop σ x1) (fun r => zKeM σ0 (r.1)) := by
  unfold fX12_isStop
  exact w_fX12_isStop_2 _ _ _ _ h
theorem w_fX12_step_62 {σ0 : zSt} {σ : zSt} {x2 : Int32} (h : zKeM σ0 σ) : zpc (fX12_step_62 σ x2) (fun r => zKeM σ0 (r.1)) := by
  unfold fX12_step_62
  exact zpc_some h
theorem w_fX12_step_52 {σ0 : zSt} {k29 : zSt → Int32 → Int32 → Option (zSt × Int32)} (hk29 : ∀ (y0 : zSt) (y1 : Int32) (y2 : Int32), zKeM σ0 y0 → zpc (k29 y0 y1 y2) (fun r => zKeM σ0 (r.1))) {σ : zSt} {x1 : Int32} {x2 : Int32} (h : zKeM σ0 σ) : zpc (fX12_step_52 k29 σ x1 x2) (fun r => zKeM σ0 (r.1)) := by
  unfold fX12_step_52
  exact zpc_bu (w_fX12_once h) (fun σ1 hσ1 => zpc_bv (fun v2 _ => hk29 _ _ _ hσ1))
theorem w_fX12_step_29_body {σ0 : zSt} {k29 : zSt → Int32 → Int32 → Option (zSt × Int32)} (hk29 : ∀ (y0 : zSt) (y1 : Int32) (y2 : Int32), zKeM σ0 y0 → zpc (k29 y0 y1 y2) (fun r => zKeM σ0 (r.1))) {σ : zSt} {x1 : Int32} {x2 : Int32} (h : zKeM σ0 σ) : zpc (fX12_step_29_body k29 σ x1 x2) (fun r => zKeM σ0 (r.1)) := by
  unfold fX12_step_29_body
  exact zpc_if (fun _ => w_fX12_step_62 h) (fun _ => zpc_if (fun _ => w_fX12_step_52 hk29 h) (fun _ => zpc_ck (zpc_bi (w_fX12_isStop h) (fun σ3 v4 hσ3 => zpc_if (fun _ => w_fX12_step_52 hk29 hσ3) (fun _ => w_fX12_step_62 hσ3)))))
theorem w_fX12_step_29 {σ0 : zSt} : ∀ (n : Nat) (y0 : zSt) (y1 : Int32) (y2 : Int32), zKeM σ0 y0 → zpc (fX12_step_29 n y0 y1 y2) (fun r => zKeM σ0 (r.1)) := by
  intro n
  induction n with
  | zero => intro y0 y1 y2 h; exact zpc_none
  | succ n ih => intro y0 y1 y2 h; exact w_fX12_step_29_body ih h
theorem w_fX12_step_18 {σ0 : zSt} {σ : zSt} {x1 : Int32} {s0 : Int32} (h : zKeM σ0 σ) : zpc (fX12_step_18 σ x1 s0) (fun r => zKeM σ0 (r.1)) := by
  unfold fX12_step_18
  exact zpc_bi (w_fX12_fails h) (fun σ5 v6 hσ5 => zpc_if (fun _ => w_fX12_step_29 _ _ _ _ hσ5) (fun _ => zpc_some hσ5))
theorem w_fX12_step {σ0 : zSt} {σ : zSt} {x1 : Int32} (h : zKeM σ0 σ) : zpc (fX12_step σ x1) (fun r => zKeM σ0 (r.1)) := by
  unfold fX12_step
  exact zpc_bi (w_fX12_within h) (fun σ7 v8 hσ7 => zpc_if (fun _ => w_fX12_step_18 hσ7) (fun _ => w_fX12_step_18 hσ7))
theorem w_fX12_picture_80 {σ0 : zSt} {σ : zSt} {x4 : Int32} (h : zKeM σ0 σ) : zpc (fX12_picture_80 σ x4) (fun r => zKeM σ0 (r.1)) := by
  unfold fX12_picture_80
  exact zpc_some h
theorem w_fX12_picture_70 {σ0 : zSt} {k40 : zSt → Int64 → Int32 → Option (zSt × Int32)} (hk40 : ∀ (y0 : zSt) (y1 : Int64) (y2 : Int32), zKeM σ0 y0 → zpc (k40 y0 y1 y2) (fun r => zKeM σ0 (r.1))) {σ : zSt} {x2 : Int64} {x4 : Int32} (h : zKeM σ0 σ) : zpc (fX12_picture_70 k40 σ x2 x4) (fun r => zKeM σ0 (r.1)) := by
  unfold fX12_picture_70
  exact zpc_bu (w_fX12_once h) (fun σ1 hσ1 => zpc_bv (fun v2 _ => hk40 _ _ _ hσ1))
theorem w_fX12_picture_40_body {σ0 : zSt} {k40 : zSt → Int64 → Int32 → Option (zSt × Int32)} (hk40 : ∀ (y0 : zSt) (y1 : Int64) (y2 : Int32), zKeM σ0 y0 → zpc (k40 y0 y1 y2) (fun r => zKeM σ0 (r.1))) {σ : zSt} {x2 : Int64} {x4 : Int32} (h : zKeM σ0 σ) : zpc (fX12_picture_40_body k40 σ x2 x4) (fun r => zKeM σ0 (r.1)) := by
  unfold fX12_picture_40_body
  exact zpc_ck (zpc_if (fun _ => w_fX12_picture_80 h) (fun _ => zpc_if (fun _ => w_fX12_picture_70 hk40 h) (fun _ => zpc_ck (zpc_bi (w_fX12_isStop h) (fun σ3 v4 hσ3 => zpc_if (fun _ => w_fX12_picture_70 hk40 hσ3) (fun _ => w_fX12_picture_80 hσ3))))))
theorem w_fX12_picture_40 {σ0 : zSt} : ∀ (n : Nat) (y0 : zSt) (y1 : Int64) (y2 : Int32), zKeM σ0 y0 → zpc (fX12_picture_40 n y0 y1 y2) (fun r => zKeM σ0 (r.1)) := by
  intro n
  induction n with
  | zero => intro y0 y1 y2 h; exact zpc_none
  | succ n ih => intro y0 y1 y2 h; exact w_fX12_picture_40_body ih h
theorem w_fX12_picture_18 {σ0 : zSt} {σ : zSt} {x1 : Int32} {s0 : Int32} (h : zKeM σ0 σ) : zpc (fX12_picture_18 σ x1 s0) (fun r => zKeM σ0 (r.1)) := by
  unfold fX12_picture_18
  exact zpc_bi (w_fX12_fails h) (fun σ5 v6 hσ5 => zpc_if (fun _ => zpc_ck (zpc_bv (fun v7 _ => w_fX12_picture_40 _ _ _ _ hσ5))) (fun _ => zpc_some hσ5))
theorem w_fX12_picture {σ0 : zSt} {σ : zSt} {x1 : Int32} (h : zKeM σ0 σ) : zpc (fX12_picture σ x1) (fun r => zKeM σ0 (r.1)) := by
  unfold fX12_picture
  exact zpc_bi (w_fX12_within h) (fun σ8 v9 hσ8 => zpc_if (fun _ => w_fX12_picture_18 hσ8) (fun _ => w_fX12_picture_18 hσ8))
theorem w_fX12_dot_103 {σ0 : zSt} {σ : zSt} {s0 : Int32} (h : zKeM σ0 σ) : zpc (fX12_dot_103 σ s0) (fun r => zKeM σ0 (r.1)) := by
  unfold fX12_dot_103
  exact zpc_ck (zpc_some h)
theorem w_fX12_dot_63 {σ0 : zSt} {σ : zSt} {x1 : Int32} {x2 : Int32} {x3 : Int32} {s0 : Int32} (h : zKeM σ0 σ) : zpc (fX12_dot_63 σ x1 x2 x3 s0) (fun r => zKeM σ0 (r.1)) := by
  unfold fX12_dot_63
  exact zpc_bi (w_fX12_fails h) (fun σ1 v2 hσ1 => zpc_if (fun _ => zpc_if (fun _ => w_fX12_dot_103 hσ1) (fun _ => w_fX12_dot_103 hσ1)) (fun _ => zpc_some hσ1))
theorem w_fX12_dot_58 {σ0 : zSt} {σ : zSt} {x1 : Int32} {x2 : Int32} {x3 : Int32} (h : zKeM σ0 σ) : zpc (fX12_dot_58 σ x1 x2 x3) (fun r => zKeM σ0 (r.1)) := by
  unfold fX12_dot_58
  exact w_fX12_dot_63 h
theorem w_fX12_dot_55 {σ0 : zSt} {σ : zSt} {x1 : Int32} {x2 : Int32} {x3 : Int32} {s0 : Int32} {s1 : Int32} (h : zKeM σ0 σ) : zpc (fX12_dot_55 σ x1 x2 x3 s0 s1) (fun r => zKeM σ0 (r.1)) := by
  unfold fX12_dot_55
  exact zpc_if (fun _ => w_fX12_dot_63 h) (fun _ => w_fX12_dot_58 h)
theorem w_fX12_dot_37 {σ0 : zSt} {σ : zSt} {x1 : Int32} {x2 : Int32} {x3 : Int32} {s0 : Int32} {s1 : Int32} (h : zKeM σ0 σ) : zpc (fX12_dot_37 σ x1 x2 x3 s0 s1) (fun r => zKeM σ0 (r.1)) := by
  unfold fX12_dot_37
  exact zpc_if (fun _ => w_fX12_dot_58 h) (fun _ => zpc_if (fun _ => zpc_bi (w_fX12_height h) (fun σ3 v4 hσ3 => w_fX12_dot_55 hσ3)) (fun _ => w_fX12_dot_55 h))
theorem w_fX12_dot_13 {σ0 : zSt} {σ : zSt} {x1 : Int32} {x2 : Int32} {s0 : Int32} (h : zKeM σ0 σ) : zpc (fX12_dot_13 σ x1 x2 s0) (fun r => zKeM σ0 (r.1)) := by
  unfold fX12_dot_13
  exact zpc_if (fun _ => w_fX12_dot_58 h) (fun _ => zpc_if (fun _ => w_fX12_dot_58 h) (fun _ => zpc_if (fun _ => w_fX12_dot_37 h) (fun _ => w_fX12_dot_37 h)))
theorem w_fX12_dot {σ0 : zSt} {σ : zSt} {x1 : Int32} {x2 : Int32} (h : zKeM σ0 σ) : zpc (fX12_dot σ x1 x2) (fun r => zKeM σ0 (r.1)) := by
  unfold fX12_dot
  exact zpc_if (fun _ => w_fX12_dot_13 h) (fun _ => w_fX12_dot_13 h)
theorem w_fX12_row_111 {σ0 : zSt} {k56 : zSt → Int32 → Int32 → Int32 → Int32 → Option (zSt × Int32)} (hk56 : ∀ (y0 : zSt) (y1 : Int32) (y2 : Int32) (y3 : Int32) (y4 : Int32), zKeM σ0 y0 → zpc (k56 y0 y1 y2 y3 y4) (fun r => zKeM σ0 (r.1))) {σ : zSt} {x1 : Int32} {x2 : Int32} {x4 : Int32} {s0 : Int32} {s2 : Int32} (h : zKeM σ0 σ) : zpc (fX12_row_111 k56 σ x1 x2 x4 s0 s2) (fun r => zKeM σ0 (r.1)) := by
  unfold fX12_row_111
  exact zpc_ck (zpc_bv (fun v1 _ => zpc_bv (fun v2 _ => hk56 _ _ _ _ _ h)))
theorem w_fX12_row_71 {σ0 : zSt} {k56 : zSt → Int32 → Int32 → Int32 → Int32 → Option (zSt × Int32)} (hk56 : ∀ (y0 : zSt) (y1 : Int32) (y2 : Int32) (y3 : Int32) (y4 : Int32), zKeM σ0 y0 → zpc (k56 y0 y1 y2 y3 y4) (fun r => zKeM σ0 (r.1))) {σ : zSt} {x1 : Int32} {x2 : Int32} {x3 : Int32} {x4 : Int32} {s0 : Int32} {s1 : Int32} (h : zKeM σ0 σ) : zpc (fX12_row_71 k56 σ x1 x2 x3 x4 s0 s1) (fun r => zKeM σ0 (r.1)) := by
  unfold fX12_row_71
  exact zpc_if (fun _ => zpc_some h) (fun _ => zpc_if (fun _ => w_fX12_row_111 hk56 h) (fun _ => w_fX12_row_111 hk56 h))
theorem w_fX12_row_56_body {σ0 : zSt} {k56 : zSt → Int32 → Int32 → Int32 → Int32 → Option (zSt × Int32)} (hk56 : ∀ (y0 : zSt) (y1 : Int32) (y2 : Int32) (y3 : Int32) (y4 : Int32), zKeM σ0 y0 → zpc (k56 y0 y1 y2 y3 y4) (fun r => zKeM σ0 (r.1))) {σ : zSt} {x1 : Int32} {x2 : Int32} {x3 : Int32} {x4 : Int32} (h : zKeM σ0 σ) : zpc (fX12_row_56_body k56 σ x1 x2 x3 x4) (fun r => zKeM σ0 (r.1)) := by
  unfold fX12_row_56_body
  exact zpc_if (fun _ => w_fX12_row_71 hk56 h) (fun _ => w_fX12_row_71 hk56 h)
theorem w_fX12_row_56 {σ0 : zSt} : ∀ (n : Nat) (y0 : zSt) (y1 : Int32) (y2 : Int32) (y3 : Int32) (y4 : Int32), zKeM σ0 y0 → zpc (fX12_row_56 n y0 y1 y2 y3 y4) (fun r => zKeM σ0 (r.1)) := by
  intro n
  induction n with
  | zero => intro y0 y1 y2 y3 y4 h; exact zpc_none
  | succ n ih => intro y0 y1 y2 y3 y4 h; exact w_fX12_row_56_body ih h
theorem w_fX12_row_42 {σ0 : zSt} {σ : zSt} {x1 : Int32} {x2 : Int32} {s0 : Int32} (h : zKeM σ0 σ) : zpc (fX12_row_42 σ x1 x2 s0) (fun r => zKeM σ0 (r.1)) := by
  unfold fX12_row_42
  exact zpc_bi (w_fX12_fails h) (fun σ3 v4 hσ3 => zpc_if (fun _ => w_fX12_row_56 _ _ _ _ _ _ hσ3) (fun _ => zpc_some hσ3))
theorem w_fX12_row_37 {σ0 : zSt} {σ : zSt} {x1 : Int32} {x2 : Int32} (h : zKeM σ0 σ) : zpc (fX12_row_37 σ x1 x2) (fun r => zKeM σ0 (r.1)) := by
  unfold fX12_row_37
  exact w_fX12_row_42 h
theorem w_fX12_row_34 {σ0 : zSt} {σ : zSt} {x1 : Int32} {x2 : Int32} {s0 : Int32} {s1 : Int32} (h : zKeM σ0 σ) : zpc (fX12_row_34 σ x1 x2 s0 s1) (fun r => zKeM σ0 (r.1)) := by
  unfold fX12_row_34
  exact zpc_if (fun _ => w_fX12_row_42 h) (fun _ => w_fX12_row_37 h)
theorem w_fX12_row_13 {σ0 : zSt} {σ : zSt} {x1 : Int32} {s0 : Int32} (h : zKeM σ0 σ) : zpc (fX12_row_13 σ x1 s0) (fun r => zKeM σ0 (r.1)) := by
  unfold fX12_row_13
  exact zpc_if (fun _ => w_fX12_row_37 h) (fun _ => zpc_if (fun _ => zpc_bi (w_fX12_height h) (fun σ5 v6 hσ5 => w_fX12_row_34 hσ5)) (fun _ => w_fX12_row_34 h))
theorem w_fX12_row {σ0 : zSt} {σ : zSt} {x1 : Int32} (h : zKeM σ0 σ) : zpc (fX12_row σ x1) (fun r => zKeM σ0 (r.1)) := by
  unfold fX12_row
  exact zpc_if (fun _ => w_fX12_row_13 h) (fun _ => w_fX12_row_13 h)
theorem w_fX12_hear_16 {σ0 : zSt} {σ : zSt} {s0 : Int32} (h : zKeM σ0 σ) : zpc (fX12_hear_16 σ s0) (fun r => zKeM σ0 (r.1)) := by
  unfold fX12_hear_16
  exact zpc_bi (w_fX12_fails h) (fun σ1 v2 hσ1 => zpc_if (fun _ => zpc_ck (zpc_ck (zpc_bv (fun v3 _ => zpc_ck (zpc_ck (zpc_ck (zpc_bs (zKeM.wi hσ1 (by decide)) (fun σ4 hσ4 => zpc_ck (zpc_ck (zpc_bs (zKeM.wi hσ4 (by decide)) (fun σ5 hσ5 => zpc_some hσ5))))))))))) (fun _ => zpc_some hσ1))
theorem w_fX12_hear {σ0 : zSt} {σ : zSt} (h : zKeM σ0 σ) : zpc (fX12_hear σ) (fun r => zKeM σ0 (r.1)) := by
  unfold fX12_hear
  exact zpc_ck (zpc_if (fun _ => w_fX12_hear_16 h) (fun _ => w_fX12_hear_16 h))
theorem w_fX12_sound_52 {σ0 : zSt} {σ : zSt} {s0 : Int32} (h : zKeM σ0 σ) : zpc (fX12_sound_52 σ s0) (fun r => zKeM σ0 (r.1)) := by
  unfold fX12_sound_52
  exact zpc_some h
theorem w_fX12_sound_18 {σ0 : zSt} {σ : zSt} {x1 : Int32} {s0 : Int32} (h : zKeM σ0 σ) : zpc (fX12_sound_18 σ x1 s0) (fun r => zKeM σ0 (r.1)) := by
  unfold fX12_sound_18
  exact zpc_bi (w_fX12_fails h) (fun σ1 v2 hσ1 => zpc_if (fun _ => zpc_if (fun _ => zpc_ck (w_fX12_sound_52 hσ1)) (fun _ => zpc_ck (w_fX12_sound_52 hσ1))) (fun _ => zpc_some hσ1))
theorem w_fX12_sound {σ0 : zSt} {σ : zSt} {x1 : Int32} (h : zKeM σ0 σ) : zpc (fX12_sound σ x1) (fun r => zKeM σ0 (r.1)) := by
  unfold fX12_sound
  exact zpc_bi (w_fX12_within h) (fun σ3 v4 hσ3 => zpc_if (fun _ => w_fX12_sound_18 hσ3) (fun _ => w_fX12_sound_18 hσ3))
theorem w_fX12_reset {σ0 : zSt} {σ : zSt} (h : zKeM σ0 σ) : zpc (fX12_reset σ) (fun r => zKeM σ0 (r)) := by
  unfold fX12_reset
  exact zpc_bs (zKeM.w0 h (by decide)) (fun σ1 hσ1 => zpc_bu (w_fX12_anew hσ1) (fun σ2 hσ2 => zpc_some hσ2))
theorem w_fX12_pause {σ0 : zSt} {σ : zSt} (h : zKeM σ0 σ) : zpc (fX12_pause σ) (fun r => zKeM σ0 (r.1)) := by
  unfold fX12_pause
  exact zpc_bs (zKeM.w0 h (by decide)) (fun σ1 hσ1 => zpc_if (fun _ => zpc_ck (zpc_some hσ1)) (fun _ => zpc_ck (zpc_bs (zKeM.wi hσ1 (by decide)) (fun σ2 hσ2 => zpc_ck (zpc_some hσ2)))))
theorem w_fX12_press_28 {σ0 : zSt} {σ : zSt} {x1 : Int32} {x2 : Int32} {s0 : Int32} (h : zKeM σ0 σ) : zpc (fX12_press_28 σ x1 x2 s0) (fun r => zKeM σ0 (r)) := by
  unfold fX12_press_28
  exact zpc_bi (w_fX12_fails h) (fun σ1 v2 hσ1 => zpc_if (fun _ => zpc_ck (zpc_bs (zKeM.wi hσ1 (by decide)) (fun σ3 hσ3 => zpc_some hσ3))) (fun _ => zpc_some hσ1))
theorem w_fX12_press_23 {σ0 : zSt} {σ : zSt} {x1 : Int32} {x2 : Int32} (h : zKeM σ0 σ) : zpc (fX12_press_23 σ x1 x2) (fun r => zKeM σ0 (r)) := by
  unfold fX12_press_23
  exact w_fX12_press_28 h
theorem w_fX12_press {σ0 : zSt} {σ : zSt} {x1 : Int32} {x2 : Int32} (h : zKeM σ0 σ) : zpc (fX12_press σ x1 x2) (fun r => zKeM σ0 (r)) := by
  unfold fX12_press
  exact zpc_bi (w_fX12_within h) (fun σ4 v5 hσ4 => zpc_if (fun _ => w_fX12_press_23 hσ4) (fun _ => zpc_bi (w_fX12_within hσ4) (fun σ6 v7 hσ6 => zpc_if (fun _ => w_fX12_press_23 hσ6) (fun _ => w_fX12_press_28 hσ6))))
theorem w_fX12_start_20 {σ0 : zSt} {σ : zSt} {s0 : Int32} {s1 : Int32} (h : zKeM σ0 σ) : zpc (fX12_start_20 σ s0 s1) (fun r => zKeM σ0 (r)) := by
  unfold fX12_start_20
  exact zpc_ck (zpc_bs (zKeM.wi h (by decide)) (fun σ1 hσ1 => zpc_some hσ1))
theorem w_fX12_start {σ0 : zSt} {σ : zSt} {x1 : Int32} (h : zKeM σ0 σ) : zpc (fX12_start σ x1) (fun r => zKeM σ0 (r)) := by
  unfold fX12_start
  exact zpc_bs (zKeM.w0 h (by decide)) (fun σ2 hσ2 => zpc_if (fun _ => w_fX12_start_20 hσ2) (fun _ => w_fX12_start_20 hσ2))
theorem w_fX12_line_72 {σ0 : zSt} {σ : zSt} (h : zKeM σ0 σ) : zpc (fX12_line_72 σ) (fun r => zKeM σ0 (r)) := by
  unfold fX12_line_72
  exact zpc_some h
theorem w_fX12_line_47 {σ0 : zSt} {σ : zSt} {x1 : Int32} {x3 : Int32} {s0 : Int32} {s1 : Int32} (h : zKeM σ0 σ) : zpc (fX12_line_47 σ x1 x3 s0 s1) (fun r => zKeM σ0 (r)) := by
  unfold fX12_line_47
  exact zpc_ck (zpc_bs (zKeM.wi h (by decide)) (fun σ1 hσ1 => zpc_if (fun _ => zpc_bi (w_fX12_lineAt hσ1) (fun σ2 v3 hσ2 => zpc_if (fun _ => zpc_bi (w_fX12_hCount hσ2) (fun σ4 v5 hσ4 => zpc_ck (zpc_bs (zKeM.wi hσ4 (by decide)) (fun σ6 hσ6 => w_fX12_line_72 hσ6)))) (fun _ => w_fX12_line_72 hσ2))) (fun _ => w_fX12_line_72 hσ1)))
theorem w_fX12_line_16 {σ0 : zSt} {σ : zSt} {x1 : Int32} {x2 : Int32} {s0 : Int32} (h : zKeM σ0 σ) : zpc (fX12_line_16 σ x1 x2 s0) (fun r => zKeM σ0 (r)) := by
  unfold fX12_line_16
  exact zpc_bi (w_fX12_fails h) (fun σ7 v8 hσ7 => zpc_if (fun _ => zpc_bi (w_fX12_lineAt hσ7) (fun σ9 v10 hσ9 => zpc_if (fun _ => w_fX12_line_47 hσ9) (fun _ => w_fX12_line_47 hσ9))) (fun _ => zpc_some hσ7))
theorem w_fX12_line {σ0 : zSt} {σ : zSt} {x1 : Int32} {x2 : Int32} (h : zKeM σ0 σ) : zpc (fX12_line σ x1 x2) (fun r => zKeM σ0 (r)) := by
  unfold fX12_line
  exact zpc_bi (w_fX12_within h) (fun σ11 v12 hσ11 => zpc_if (fun _ => w_fX12_line_16 hσ11) (fun _ => w_fX12_line_16 hσ11))
theorem w_fX12_stop_64 {σ0 : zSt} {σ : zSt} (h : zKeM σ0 σ) : zpc (fX12_stop_64 σ) (fun r => zKeM σ0 (r.1)) := by
  unfold fX12_stop_64
  exact zpc_some h
theorem w_fX12_stop_168 {σ0 : zSt} {σ : zSt} (h : zKeM σ0 σ) : zpc (fX12_stop_168 σ) (fun r => zKeM σ0 (r.1)) := by
  unfold fX12_stop_168
  exact zpc_ck (zpc_some h)
theorem w_fX12_stop_112_body {σ0 : zSt} {k112 : zSt → Int32 → Int32 → Option (zSt × Int32)} (hk112 : ∀ (y0 : zSt) (y1 : Int32) (y2 : Int32), zKeM σ0 y0 → zpc (k112 y0 y1 y2) (fun r => zKeM σ0 (r.1))) {σ : zSt} {x1 : Int32} {x4 : Int32} (h : zKeM σ0 σ) : zpc (fX12_stop_112_body k112 σ x1 x4) (fun r => zKeM σ0 (r.1)) := by
  unfold fX12_stop_112_body
  exact zpc_ck (zpc_if (fun _ => zpc_ck (zpc_ck (zpc_ck (zpc_bs (zKeM.wi h (by decide)) (fun σ1 hσ1 => zpc_ck (zpc_ck (zpc_bs (zKeM.wi hσ1 (by decide)) (fun σ2 hσ2 => w_fX12_stop_168 hσ2)))))))) (fun _ => zpc_bv (fun v3 _ => hk112 _ _ _ h)))
theorem w_fX12_stop_112 {σ0 : zSt} : ∀ (n : Nat) (y0 : zSt) (y1 : Int32) (y2 : Int32), zKeM σ0 y0 → zpc (fX12_stop_112 n y0 y1 y2) (fun r => zKeM σ0 (r.1)) := by
  intro n
  induction n with
  | zero => intro y0 y1 y2 h; exact zpc_none
  | succ n ih => intro y0 y1 y2 h; exact w_fX12_stop_112_body ih h
theorem w_fX12_stop_101 {σ0 : zSt} {σ : zSt} {x1 : Int32} {x2 : Int32} {x3 : Int32} (h : zKeM σ0 σ) : zpc (fX12_stop_101 σ x1 x2 x3) (fun r => zKeM σ0 (r.1)) := by
  unfold fX12_stop_101
  exact zpc_if (fun _ => zpc_if (fun _ => w_fX12_stop_168 h) (fun _ => w_fX12_stop_112 _ _ _ _ h)) (fun _ => w_fX12_stop_168 h)
theorem w_fX12_stop_57 {σ0 : zSt} {σ : zSt} {x1 : Int32} {x2 : Int32} {x3 : Int32} {s0 : Int32} (h : zKeM σ0 σ) : zpc (fX12_stop_57 σ x1 x2 x3 s0) (fun r => zKeM σ0 (r.1)) := by
  unfold fX12_stop_57
  exact zpc_bi (w_fX12_fails h) (fun σ4 v5 hσ4 => zpc_if (fun _ => zpc_if (fun _ => w_fX12_stop_101 hσ4) (fun _ => zpc_if (fun _ => zpc_ck (zpc_ck (zpc_bs (zKeM.wi hσ4 (by decide)) (fun σ6 hσ6 => zpc_ck (zpc_ck (zpc_bs (zKeM.wi hσ6 (by decide)) (fun σ7 hσ7 => w_fX12_stop_101 hσ7))))))) (fun _ => w_fX12_stop_101 hσ4))) (fun _ => w_fX12_stop_64 hσ4))
theorem w_fX12_stop_56 {σ0 : zSt} {σ : zSt} {x1 : Int32} {x2 : Int32} {x3 : Int32} (h : zKeM σ0 σ) : zpc (fX12_stop_56 σ x1 x2 x3) (fun r => zKeM σ0 (r.1)) := by
  unfold fX12_stop_56
  exact w_fX12_stop_57 h
theorem w_fX12_stop_24 {σ0 : zSt} {σ : zSt} {x1 : Int32} {x2 : Int32} {x3 : Int32} {s0 : Int32} (h : zKeM σ0 σ) : zpc (fX12_stop_24 σ x1 x2 x3 s0) (fun r => zKeM σ0 (r.1)) := by
  unfold fX12_stop_24
  exact zpc_bi (w_fX12_fails h) (fun σ8 v9 hσ8 => zpc_if (fun _ => zpc_if (fun _ => w_fX12_stop_56 hσ8) (fun _ => zpc_if (fun _ => zpc_ck (zpc_if (fun _ => w_fX12_stop_57 hσ8) (fun _ => w_fX12_stop_56 hσ8))) (fun _ => w_fX12_stop_56 hσ8))) (fun _ => w_fX12_stop_64 hσ8))
theorem w_fX12_stop {σ0 : zSt} {σ : zSt} {x1 : Int32} {x2 : Int32} (h : zKeM σ0 σ) : zpc (fX12_stop σ x1 x2) (fun r => zKeM σ0 (r.1)) := by
  unfold fX12_stop
  exact zpc_bi (w_fX12_isStop h) (fun σ10 v11 hσ10 => zpc_bi (w_fX12_within hσ10) (fun σ12 v13 hσ12 => zpc_if (fun _ => w_fX12_stop_24 hσ12) (fun _ => w_fX12_stop_24 hσ12)))
theorem w_fX12_save_196_body {σ0 : zSt} {k196 : zSt → Int32 → Option (zSt)} (hk196 : ∀ (y0 : zSt) (y1 : Int32), zKeM σ0 y0 → zpc (k196 y0 y1) (fun r => zKeM σ0 (r))) {σ : zSt} {x1 : Int32} (h : zKeM σ0 σ) : zpc (fX12_save_196_body k196 σ x1) (fun r => zKeM σ0 (r)) := by
  unfold fX12_save_196_body
  exact zpc_if (fun _ => zpc_some h) (fun _ => zpc_ck (zpc_ck (zpc_bs (zKeM.wl h) (fun σ1 hσ1 => zpc_ck (zpc_ck (zpc_bs (zKeM.wl hσ1) (fun σ2 hσ2 => zpc_bv (fun v3 _ => hk196 _ _ hσ2))))))))
theorem w_fX12_save_196 {σ0 : zSt} : ∀ (n : Nat) (y0 : zSt) (y1 : Int32), zKeM σ0 y0 → zpc (fX12_save_196 n y0 y1) (fun r => zKeM σ0 (r)) := by
  intro n
  induction n with
  | zero => intro y0 y1 h; exact zpc_none
  | succ n ih => intro y0 y1 h; exact w_fX12_save_196_body ih h
theorem w_fX12_save_170_body {σ0 : zSt} {k170 : zSt → Int32 → Option (zSt)} (hk170 : ∀ (y0 : zSt) (y1 : Int32), zKeM σ0 y0 → zpc (k170 y0 y1) (fun r => zKeM σ0 (r))) {σ : zSt} {x1 : Int32} (h : zKeM σ0 σ) : zpc (fX12_save_170_body k170 σ x1) (fun r => zKeM σ0 (r)) := by
  unfold fX12_save_170_body
  exact zpc_if (fun _ => w_fX12_save_196 _ _ _ h) (fun _ => zpc_ck (zpc_ck (zpc_bs (zKeM.wi h (by decide)) (fun σ4 hσ4 => zpc_bv (fun v5 _ => hk170 _ _ hσ4)))))
theorem w_fX12_save_170 {σ0 : zSt} : ∀ (n : Nat) (y0 : zSt) (y1 : Int32), zKeM σ0 y0 → zpc (fX12_save_170 n y0 y1) (fun r => zKeM σ0 (r)) := by
  intro n
  induction n with
  | zero => intro y0 y1 h; exact zpc_none
  | succ n ih => intro y0 y1 h; exact w_fX12_save_170_body ih h
theorem w_fX12_save_144_body {σ0 : zSt} {k144 : zSt → Int32 → Option (zSt)} (hk144 : ∀ (y0 : zSt) (y1 : Int32), zKeM σ0 y0 → zpc (k144 y0 y1) (fun r => zKeM σ0 (r))) {σ : zSt} {x1 : Int32} (h : zKeM σ0 σ) : zpc (fX12_save_144_body k144 σ x1) (fun r => zKeM σ0 (r)) := by
  unfold fX12_save_144_body
  exact zpc_if (fun _ => w_fX12_save_170 _ _ _ h) (fun _ => zpc_ck (zpc_ck (zpc_bs (zKeM.wi h (by decide)) (fun σ6 hσ6 => zpc_bv (fun v7 _ => hk144 _ _ hσ6)))))
theorem w_fX12_save_144 {σ0 : zSt} : ∀ (n : Nat) (y0 : zSt) (y1 : Int32), zKeM σ0 y0 → zpc (fX12_save_144 n y0 y1) (fun r => zKeM σ0 (r)) := by
  intro n
  induction n with
  | zero => intro y0 y1 h; exact zpc_none
  | succ n ih => intro y0 y1 h; exact w_fX12_save_144_body ih h
theorem w_fX12_save_117_body {σ0 : zSt} {k117 : zSt → Int32 → Option (zSt)} (hk117 : ∀ (y0 : zSt) (y1 : Int32), zKeM σ0 y0 → zpc (k117 y0 y1) (fun r => zKeM σ0 (r))) {σ : zSt} {x1 : Int32} (h : zKeM σ0 σ) : zpc (fX12_save_117_body k117 σ x1) (fun r => zKeM σ0 (r)) := by
  unfold fX12_save_117_body
  exact zpc_if (fun _ => w_fX12_save_144 _ _ _ h) (fun _ => zpc_ck (zpc_ck (zpc_bs (zKeM.wi h (by decide)) (fun σ8 hσ8 => zpc_bv (fun v9 _ => hk117 _ _ hσ8)))))
theorem w_fX12_save_117 {σ0 : zSt} : ∀ (n : Nat) (y0 : zSt) (y1 : Int32), zKeM σ0 y0 → zpc (fX12_save_117 n y0 y1) (fun r => zKeM σ0 (r)) := by
  intro n
  induction n with
  | zero => intro y0 y1 h; exact zpc_none
  | succ n ih => intro y0 y1 h; exact w_fX12_save_117_body ih h
theorem w_fX12_save_91_body {σ0 : zSt} {k91 : zSt → Int32 → Option (zSt)} (hk91 : ∀ (y0 : zSt) (y1 : Int32), zKeM σ0 y0 → zpc (k91 y0 y1) (fun r => zKeM σ0 (r))) {σ : zSt} {x1 : Int32} (h : zKeM σ0 σ) : zpc (fX12_save_91_body k91 σ x1) (fun r => zKeM σ0 (r)) := by
  unfold fX12_save_91_body
  exact zpc_if (fun _ => w_fX12_save_117 _ _ _ h) (fun _ => zpc_ck (zpc_ck (zpc_bs (zKeM.wi h (by decide)) (fun σ10 hσ10 => zpc_bv (fun v11 _ => hk91 _ _ hσ10)))))
theorem w_fX12_save_91 {σ0 : zSt} : ∀ (n : Nat) (y0 : zSt) (y1 : Int32), zKeM σ0 y0 → zpc (fX12_save_91 n y0 y1) (fun r => zKeM σ0 (r)) := by
  intro n
  induction n with
  | zero => intro y0 y1 h; exact zpc_none
  | succ n ih => intro y0 y1 h; exact w_fX12_save_91_body ih h
theorem w_fX12_save_64_body {σ0 : zSt} {k64 : zSt → Int32 → Option (zSt)} (hk64 : ∀ (y0 : zSt) (y1 : Int32), zKeM σ0 y0 → zpc (k64 y0 y1) (fun r => zKeM σ0 (r))) {σ : zSt} {x1 : Int32} (h : zKeM σ0 σ) : zpc (fX12_save_64_body k64 σ x1) (fun r => zKeM σ0 (r)) := by
  unfold fX12_save_64_body
  exact zpc_if (fun _ => w_fX12_save_91 _ _ _ h) (fun _ => zpc_ck (zpc_ck (zpc_bs (zKeM.wi h (by decide)) (fun σ12 hσ12 => zpc_bv (fun v13 _ => hk64 _ _ hσ12)))))
theorem w_fX12_save_64 {σ0 : zSt} : ∀ (n : Nat) (y0 : zSt) (y1 : Int32), zKeM σ0 y0 → zpc (fX12_save_64 n y0 y1) (fun r => zKeM σ0 (r)) := by
  intro n
  induction n with
  | zero => intro y0 y1 h; exact zpc_none
  | succ n ih => intro y0 y1 h; exact w_fX12_save_64_body ih h
theorem w_fX12_save_39_body {σ0 : zSt} {k39 : zSt → Int32 → Option (zSt)} (hk39 : ∀ (y0 : zSt) (y1 : Int32), zKeM σ0 y0 → zpc (k39 y0 y1) (fun r => zKeM σ0 (r))) {σ : zSt} {x1 : Int32} (h : zKeM σ0 σ) : zpc (fX12_save_39_body k39 σ x1) (fun r => zKeM σ0 (r)) := by
  unfold fX12_save_39_body
  exact zpc_if (fun _ => w_fX12_save_64 _ _ _ h) (fun _ => zpc_ck (zpc_ck (zpc_bs (zKeM.wl h) (fun σ14 hσ14 => zpc_bv (fun v15 _ => hk39 _ _ hσ14)))))
theorem w_fX12_save_39 {σ0 : zSt} : ∀ (n : Nat) (y0 : zSt) (y1 : Int32), zKeM σ0 y0 → zpc (fX12_save_39 n y0 y1) (fun r => zKeM σ0 (r)) := by
  intro n
  induction n with
  | zero => intro y0 y1 h; exact zpc_none
  | succ n ih => intro y0 y1 h; exact w_fX12_save_39_body ih h
theorem w_fX12_save_12_body {σ0 : zSt} {k12 : zSt → Int32 → Option (zSt)} (hk12 : ∀ (y0 : zSt) (y1 : Int32), zKeM σ0 y0 → zpc (k12 y0 y1) (fun r => zKeM σ0 (r))) {σ : zSt} {x1 : Int32} (h : zKeM σ0 σ) : zpc (fX12_save_12_body k12 σ x1) (fun r => zKeM σ0 (r)) := by
  unfold fX12_save_12_body
  exact zpc_if (fun _ => w_fX12_save_39 _ _ _ h) (fun _ => zpc_ck (zpc_ck (zpc_bs (zKeM.wi h (by decide)) (fun σ16 hσ16 => zpc_bv (fun v17 _ => hk12 _ _ hσ16)))))
theorem w_fX12_save_12 {σ0 : zSt} : ∀ (n : Nat) (y0 : zSt) (y1 : Int32), zKeM σ0 y0 → zpc (fX12_save_12 n y0 y1) (fun r => zKeM σ0 (r)) := by
  intro n
  induction n with
  | zero => intro y0 y1 h; exact zpc_none
  | succ n ih => intro y0 y1 h; exact w_fX12_save_12_body ih h
theorem w_fX12_save {σ0 : zSt} {σ : zSt} (h : zKeM σ0 σ) : zpc (fX12_save σ) (fun r => zKeM σ0 (r)) := by
  unfold fX12_save
  exact zpc_bs (zKeM.w0 h (by decide)) (fun σ18 hσ18 => zpc_ck (zpc_bs (zKeM.w0 hσ18 (by decide)) (fun σ19 hσ19 => w_fX12_save_12 _ _ _ hσ19)))
theorem w_fX12_restore_207_body {σ0 : zSt} {k207 : zSt → Int32 → Option (zSt)} (hk207 : ∀ (y0 : zSt) (y1 : Int32), zKeM σ0 y0 → zpc (k207 y0 y1) (fun r => zKeM σ0 (r))) {σ : zSt} {x1 : Int32} (h : zKeM σ0 σ) : zpc (fX12_restore_207_body k207 σ x1) (fun r => zKeM σ0 (r)) := by
  unfold fX12_restore_207_body
  exact zpc_if (fun _ => zpc_some h) (fun _ => zpc_ck (zpc_ck (zpc_bs (zKeM.wl h) (fun σ1 hσ1 => zpc_ck (zpc_ck (zpc_bs (zKeM.wl hσ1) (fun σ2 hσ2 => zpc_bv (fun v3 _ => hk207 _ _ hσ2))))))))
theorem w_fX12_restore_207 {σ0 : zSt} : ∀ (n : Nat) (y0 : zSt) (y1 : Int32), zKeM σ0 y0 → zpc (fX12_restore_207 n y0 y1) (fun r => zKeM σ0 (r)) := by
  intro n
  induction n with
  | zero => intro y0 y1 h; exact zpc_none
  | succ n ih => intro y0 y1 h; exact w_fX12_restore_207_body ih h
theorem w_fX12_restore_181_body {σ0 : zSt} {k181 : zSt → Int32 → Option (zSt)} (hk181 : ∀ (y0 : zSt) (y1 : Int32), zKeM σ0 y0 → zpc (k181 y0 y1) (fun r => zKeM σ0 (r))) {σ : zSt} {x1 : Int32} (h : zKeM σ0 σ) : zpc (fX12_restore_181_body k181 σ x1) (fun r => zKeM σ0 (r)) := by
  unfold fX12_restore_181_body
  exact zpc_if (fun _ => w_fX12_restore_207 _ _ _ h) (fun _ => zpc_ck (zpc_ck (zpc_bs (zKeM.wi h (by decide)) (fun σ4 hσ4 => zpc_bv (fun v5 _ => hk181 _ _ hσ4)))))
theorem w_fX12_restore_181 {σ0 : zSt} : ∀ (n : Nat) (y0 : zSt) (y1 : Int32), zKeM σ0 y0 → zpc (fX12_restore_181 n y0 y1) (fun r => zKeM σ0 (r)) := by
  intro n
  induction n with
  | zero => intro y0 y1 h; exact zpc_none
  | succ n ih => intro y0 y1 h; exact w_fX12_restore_181_body ih h
theorem w_fX12_restore_155_body {σ0 : zSt} {k155 : zSt → Int32 → Option (zSt)} (hk155 : ∀ (y0 : zSt) (y1 : Int32), zKeM σ0 y0 → zpc (k155 y0 y1) (fun r => zKeM σ0 (r))) {σ : zSt} {x1 : Int32} (h : zKeM σ0 σ) : zpc (fX12_restore_155_body k155 σ x1) (fun r => zKeM σ0 (r)) := by
  unfold fX12_restore_155_body
  exact zpc_if (fun _ => w_fX12_restore_181 _ _ _ h) (fun _ => zpc_ck (zpc_ck (zpc_bs (zKeM.wi h (by decide)) (fun σ6 hσ6 => zpc_bv (fun v7 _ => hk155 _ _ hσ6)))))
theorem w_fX12_restore_155 {σ0 : zSt} : ∀ (n : Nat) (y0 : zSt) (y1 : Int32), zKeM σ0 y0 → zpc (fX12_restore_155 n y0 y1) (fun r => zKeM σ0 (r)) := by
  intro n
  induction n with
  | zero => intro y0 y1 h; exact zpc_none
  | succ n ih => intro y0 y1 h; exact w_fX12_restore_155_body ih h
theorem w_fX12_restore_128_body {σ0 : zSt} {k128 : zSt → Int32 → Option (zSt)} (hk128 : ∀ (y0 : zSt) (y1 : Int32), zKeM σ0 y0 → zpc (k128 y0 y1) (fun r => zKeM σ0 (r))) {σ : zSt} {x1 : Int32} (h : zKeM σ0 σ) : zpc (fX12_restore_128_body k128 σ x1) (fun r => zKeM σ0 (r)) := by
  unfold fX12_restore_128_body
  exact zpc_if (fun _ => w_fX12_restore_155 _ _ _ h) (fun _ => zpc_ck (zpc_ck (zpc_bs (zKeM.wi h (by decide)) (fun σ8 hσ8 => zpc_bv (fun v9 _ => hk128 _ _ hσ8)))))
theorem w_fX12_restore_128 {σ0 : zSt} : ∀ (n : Nat) (y0 : zSt) (y1 : Int32), zKeM σ0 y0 → zpc (fX12_restore_128 n y0 y1) (fun r => zKeM σ0 (r)) := by
  intro n
  induction n with
  | zero => intro y0 y1 h; exact zpc_none
  | succ n ih => intro y0 y1 h; exact w_fX12_restore_128_body ih h
theorem w_fX12_restore_102_body {σ0 : zSt} {k102 : zSt → Int32 → Option (zSt)} (hk102 : ∀ (y0 : zSt) (y1 : Int32), zKeM σ0 y0 → zpc (k102 y0 y1) (fun r => zKeM σ0 (r))) {σ : zSt} {x1 : Int32} (h : zKeM σ0 σ) : zpc (fX12_restore_102_body k102 σ x1) (fun r => zKeM σ0 (r)) := by
  unfold fX12_restore_102_body
  exact zpc_if (fun _ => w_fX12_restore_128 _ _ _ h) (fun _ => zpc_ck (zpc_ck (zpc_bs (zKeM.wi h (by decide)) (fun σ10 hσ10 => zpc_bv (fun v11 _ => hk102 _ _ hσ10)))))
theorem w_fX12_restore_102 {σ0 : zSt} : ∀ (n : Nat) (y0 : zSt) (y1 : Int32), zKeM σ0 y0 → zpc (fX12_restore_102 n y0 y1) (fun r => zKeM σ0 (r)) := by
  intro n
  induction n with
  | zero => intro y0 y1 h; exact zpc_none
  | succ n ih => intro y0 y1 h; exact w_fX12_restore_102_body ih h
theorem w_fX12_restore_75_body {σ0 : zSt} {k75 : zSt → Int32 → Option (zSt)} (hk75 : ∀ (y0 : zSt) (y1 : Int32), zKeM σ0 y0 → zpc (k75 y0 y1) (fun r => zKeM σ0 (r))) {σ : zSt} {x1 : Int32} (h : zKeM σ0 σ) : zpc (fX12_restore_75_body k75 σ x1) (fun r => zKeM σ0 (r)) := by
  unfold fX12_restore_75_body
  exact zpc_if (fun _ => w_fX12_restore_102 _ _ _ h) (fun _ => zpc_ck (zpc_ck (zpc_bs (zKeM.wi h (by decide)) (fun σ12 hσ12 => zpc_bv (fun v13 _ => hk75 _ _ hσ12)))))
theorem w_fX12_restore_75 {σ0 : zSt} : ∀ (n : Nat) (y0 : zSt) (y1 : Int32), zKeM σ0 y0 → zpc (fX12_restore_75 n y0 y1) (fun r => zKeM σ0 (r)) := by
  intro n
  induction n with
  | zero => intro y0 y1 h; exact zpc_none
  | succ n ih => intro y0 y1 h; exact w_fX12_restore_75_body ih h
theorem w_fX12_restore_50_body {σ0 : zSt} {k50 : zSt → Int32 → Option (zSt)} (hk50 : ∀ (y0 : zSt) (y1 : Int32), zKeM σ0 y0 → zpc (k50 y0 y1) (fun r => zKeM σ0 (r))) {σ : zSt} {x1 : Int32} (h : zKeM σ0 σ) : zpc (fX12_restore_50_body k50 σ x1) (fun r => zKeM σ0 (r)) := by
  unfold fX12_restore_50_body
  exact zpc_if (fun _ => w_fX12_restore_75 _ _ _ h) (fun _ => zpc_ck (zpc_ck (zpc_bs (zKeM.wl h) (fun σ14 hσ14 => zpc_bv (fun v15 _ => hk50 _ _ hσ14)))))
theorem w_fX12_restore_50 {σ0 : zSt} : ∀ (n : Nat) (y0 : zSt) (y1 : Int32), zKeM σ0 y0 → zpc (fX12_restore_50 n y0 y1) (fun r => zKeM σ0 (r)) := by
  intro n
  induction n with
  | zero => intro y0 y1 h; exact zpc_none
  | succ n ih => intro y0 y1 h; exact w_fX12_restore_50_body ih h
theorem w_fX12_restore_23_body {σ0 : zSt} {k23 : zSt → Int32 → Option (zSt)} (hk23 : ∀ (y0 : zSt) (y1 : Int32), zKeM σ0 y0 → zpc (k23 y0 y1) (fun r => zKeM σ0 (r))) {σ : zSt} {x1 : Int32} (h : zKeM σ0 σ) : zpc (fX12_restore_23_body k23 σ x1) (fun r => zKeM σ0 (r)) := by
  unfold fX12_restore_23_body
  exact zpc_if (fun _ => w_fX12_restore_50 _ _ _ h) (fun _ => zpc_ck (zpc_ck (zpc_bs (zKeM.wi h (by decide)) (fun σ16 hσ16 => zpc_bv (fun v17 _ => hk23 _ _ hσ16)))))
theorem w_fX12_restore_23 {σ0 : zSt} : ∀ (n : Nat) (y0 : zSt) (y1 : Int32), zKeM σ0 y0 → zpc (fX12_restore_23 n y0 y1) (fun r => zKeM σ0 (r)) := by
  intro n
  induction n with
  | zero => intro y0 y1 h; exact zpc_none
  | succ n ih => intro y0 y1 h; exact w_fX12_restore_23_body ih h
theorem w_fX12_restore_13 {σ0 : zSt} {σ : zSt} {s0 : Int32} (h : zKeM σ0 σ) : zpc (fX12_restore_13 σ s0) (fun r => zKeM σ0 (r)) := by
  unfold fX12_restore_13
  exact zpc_bi (w_fX12_fails h) (fun σ18 v19 hσ18 => zpc_if (fun _ => w_fX12_restore_23 _ _ _ hσ18) (fun _ => zpc_some hσ18))
theorem w_fX12_restore {σ0 : zSt} {σ : zSt} (h : zKeM σ0 σ) : zpc (fX12_restore σ) (fun r => zKeM σ0 (r)) := by
  unfold fX12_restore
  exact zpc_if (fun _ => w_fX12_restore_13 h) (fun _ => w_fX12_restore_13 h)
theorem w_fX12_register_35 {σ0 : zSt} {σ : zSt} {s0 : Int32} (h : zKeM σ0 σ) : zpc (fX12_register_35 σ s0) (fun r => zKeM σ0 (r.1)) := by
  unfold fX12_register_35
  exact zpc_some h
theorem w_fX12_register_18 {σ0 : zSt} {σ : zSt} {x1 : Int32} {s0 : Int32} (h : zKeM σ0 σ) : zpc (fX12_register_18 σ x1 s0) (fun r => zKeM σ0 (r.1)) := by
  unfold fX12_register_18
  exact zpc_bi (w_fX12_fails h) (fun σ1 v2 hσ1 => zpc_if (fun _ => zpc_ck (w_fX12_register_35 hσ1)) (fun _ => w_fX12_register_35 hσ1))
theorem w_fX12_register {σ0 : zSt} {σ : zSt} {x1 : Int32} (h : zKeM σ0 σ) : zpc (fX12_register σ x1) (fun r => zKeM σ0 (r.1)) := by
  unfold fX12_register
  exact zpc_bi (w_fX12_within h) (fun σ3 v4 hσ3 => zpc_if (fun _ => w_fX12_register_18 hσ3) (fun _ => w_fX12_register_18 hσ3))
theorem w_fX12_set_105 {σ0 : zSt} {σ : zSt} (h : zKeM σ0 σ) : zpc (fX12_set_105 σ) (fun r => zKeM σ0 (r)) := by
  unfold fX12_set_105
  exact zpc_some h
theorem w_fX12_set_51 {σ0 : zSt} {σ : zSt} {s0 : Int32} {s1 : Int32} (h : zKeM σ0 σ) : zpc (fX12_set_51 σ s0 s1) (fun r => zKeM σ0 (r)) := by
  unfold fX12_set_51
  exact zpc_ck (zpc_bs (zKeM.wi h (by decide)) (fun σ1 hσ1 => w_fX12_set_105 hσ1))
theorem w_fX12_set_104 {σ0 : zSt} {σ : zSt} {s0 : Int32} {s1 : Int32} (h : zKeM σ0 σ) : zpc (fX12_set_104 σ s0 s1) (fun r => zKeM σ0 (r)) := by
  unfold fX12_set_104
  exact zpc_ck (zpc_bs (zKeM.wi h (by decide)) (fun σ2 hσ2 => w_fX12_set_105 hσ2))
theorem w_fX12_set_18 {σ0 : zSt} {σ : zSt} {x1 : Int32} {x2 : Int32} {s0 : Int32} (h : zKeM σ0 σ) : zpc (fX12_set_18 σ x1 x2 s0) (fun r => zKeM σ0 (r)) := by
  unfold fX12_set_18
  exact zpc_bi (w_fX12_fails h) (fun σ3 v4 hσ3 => zpc_if (fun _ => zpc_if (fun _ => zpc_if (fun _ => w_fX12_set_51 hσ3) (fun _ => w_fX12_set_51 hσ3)) (fun _ => zpc_if (fun _ => zpc_if (fun _ => zpc_if (fun _ => w_fX12_set_104 hσ3) (fun _ => w_fX12_set_104 hσ3)) (fun _ => w_fX12_set_104 hσ3)) (fun _ => w_fX12_set_104 hσ3))) (fun _ => zpc_some hσ3))
theorem w_fX12_set {σ0 : zSt} {σ : zSt} {x1 : Int32} {x2 : Int32} (h : zKeM σ0 σ) : zpc (fX12_set σ x1 x2) (fun r => zKeM σ0 (r)) := by
  unfold fX12_set
  exact zpc_bi (w_fX12_within h) (fun σ5 v6 hσ5 => zpc_if (fun _ => w_fX12_set_18 hσ5) (fun _ => w_fX12_set_18 hσ5))
theorem w_fX12_peek {σ0 : zSt} {σ : zSt} {x1 : Int32} (h : zKeM σ0 σ) : zpc (fX12_peek σ x1) (fun r => zKeM σ0 (r.1)) := by
  unfold fX12_peek
  exact zpc_bs (zKeM.w0 h (by decide)) (fun σ1 hσ1 => zpc_bi (w_fX12_read hσ1) (fun σ2 v3 hσ2 => zpc_some hσ2))
theorem w_fX12_poke {σ0 : zSt} {σ : zSt} {x1 : Int32} {x2 : Int32} (h : zKeM σ0 σ) : zpc (fX12_poke σ x1 x2) (fun r => zKeM σ0 (r)) := by
  unfold fX12_poke
  exact zpc_bs (zKeM.w0 h (by decide)) (fun σ1 hσ1 => zpc_bu (w_fX12_write hσ1) (fun σ2 hσ2 => zpc_some hσ2))
theorem w_fX12_in {σ0 : zSt} {σ : zSt} {x1 : Int32} (h : zKeM σ0 σ) : zpc (fX12_in σ x1) (fun r => zKeM σ0 (r.1)) := by
  unfold fX12_in
  exact zpc_bs (zKeM.w0 h (by decide)) (fun σ1 hσ1 => zpc_bi (w_fX12_port hσ1) (fun σ2 v3 hσ2 => zpc_some hσ2))
theorem w_fX12_out {σ0 : zSt} {σ : zSt} {x1 : Int32} {x2 : Int32} (h : zKeM σ0 σ) : zpc (fX12_out σ x1 x2) (fun r => zKeM σ0 (r)) := by
  unfold fX12_out
  exact zpc_bs (zKeM.w0 h (by decide)) (fun σ1 hσ1 => zpc_bu (w_fX12_portTo hσ1) (fun σ2 hσ2 => zpc_some hσ2))
theorem w_fX12_battery_39 {σ0 : zSt} {σ : zSt} {s0 : Int32} (h : zKeM σ0 σ) : zpc (fX12_battery_39 σ s0) (fun r => zKeM σ0 (r.1)) := by
  unfold fX12_battery_39
  exact zpc_some h
theorem w_fX12_battery_18 {σ0 : zSt} {σ : zSt} {x1 : Int32} {s0 : Int32} (h : zKeM σ0 σ) : zpc (fX12_battery_18 σ x1 s0) (fun r => zKeM σ0 (r.1)) := by
  unfold fX12_battery_18
  exact zpc_bi (w_fX12_fails h) (fun σ1 v2 hσ1 => zpc_if (fun _ => zpc_ck (w_fX12_battery_39 hσ1)) (fun _ => w_fX12_battery_39 hσ1))
theorem w_fX12_battery {σ0 : zSt} {σ : zSt} {x1 : Int32} (h : zKeM σ0 σ) : zpc (fX12_battery σ x1) (fun r => zKeM σ0 (r.1)) := by
  unfold fX12_battery
  exact zpc_bi (w_fX12_within h) (fun σ3 v4 hσ3 => zpc_if (fun _ => w_fX12_battery_18 hσ3) (fun _ => w_fX12_battery_18 hσ3))
theorem w_fX12_wipe_7_body {σ0 : zSt} {k7 : zSt → Int32 → Option (zSt)} (hk7 : ∀ (y0 : zSt) (y1 : Int32), zKeM σ0 y0 → zpc (k7 y0 y1) (fun r => zKeM σ0 (r))) {σ : zSt} {x1 : Int32} (h : zKeM σ0 σ) : zpc (fX12_wipe_7_body k7 σ x1) (fun r => zKeM σ0 (r)) := by
  unfold fX12_wipe_7_body
  exact zpc_if (fun _ => zpc_some h) (fun _ => zpc_ck (zpc_bs (zKeM.wi h (by decide)) (fun σ1 hσ1 => zpc_bv (fun v2 _ => hk7 _ _ hσ1))))
theorem w_fX12_wipe_7 {σ0 : zSt} : ∀ (n : Nat) (y0 : zSt) (y1 : Int32), zKeM σ0 y0 → zpc (fX12_wipe_7 n y0 y1) (fun r => zKeM σ0 (r)) := by
  intro n
  induction n with
  | zero => intro y0 y1 h; exact zpc_none
  | succ n ih => intro y0 y1 h; exact w_fX12_wipe_7_body ih h
theorem w_fX12_wipe {σ0 : zSt} {σ : zSt} (h : zKeM σ0 σ) : zpc (fX12_wipe σ) (fun r => zKeM σ0 (r)) := by
  unfold fX12_wipe
  exact zpc_bs (zKeM.w0 h (by decide)) (fun σ3 hσ3 => w_fX12_wipe_7 _ _ _ hσ3)
theorem w_fX12_video_11_body {σ0 : zSt} {k11 : zSt → Int32 → Int64 → Int32 → Option (zSt × Int64)} (hk11 : ∀ (y0 : zSt) (y1 : Int32) (y2 : Int64) (y3 : Int32), zKeM σ0 y0 → zpc (k11 y0 y1 y2 y3) (fun r => zKeM σ0 (r.1))) {σ : zSt} {x1 : Int32} {x2 : Int64} {x4 : Int32} (h : zKeM σ0 σ) : zpc (fX12_video_11_body k11 σ x1 x2 x4) (fun r => zKeM σ0 (r.1)) := by
  unfold fX12_video_11_body
  exact zpc_if (fun _ => zpc_some h) (fun _ => zpc_bi (w_fX12_video8 h) (fun σ1 v2 hσ1 => zpc_bv (fun v3 _ => zpc_bv (fun v4 _ => hk11 _ _ _ _ hσ1))))
theorem w_fX12_video_11 {σ0 : zSt} : ∀ (n : Nat) (y0 : zSt) (y1 : Int32) (y2 : Int64) (y3 : Int32), zKeM σ0 y0 → zpc (fX12_video_11 n y0 y1 y2 y3) (fun r => zKeM σ0 (r.1)) := by
  intro n
  induction n with
  | zero => intro y0 y1 y2 y3 h; exact zpc_none
  | succ n ih => intro y0 y1 y2 y3 h; exact w_fX12_video_11_body ih h
theorem w_fX12_video {σ0 : zSt} {σ : zSt} {x1 : Int32} (h : zKeM σ0 σ) : zpc (fX12_video σ x1) (fun r => zKeM σ0 (r.1)) := by
  unfold fX12_video
  exact zpc_bs (zKeM.w0 h (by decide)) (fun σ5 hσ5 => w_fX12_video_11 _ _ _ _ _ hσ5)
theorem w_fX12_chip_136 {σ0 : zSt} {σ : zSt} {s0 : Int32} (h : zKeM σ0 σ) : zpc (fX12_chip_136 σ s0) (fun r => zKeM σ0 (r.1)) := by
  unfold fX12_chip_136
  exact zpc_some h
theorem w_fX12_chip_32 {σ0 : zSt} {σ : zSt} {x1 : Int32} {s0 : Int32} (h : zKeM σ0 σ) : zpc (fX12_chip_32 σ x1 s0) (fun r => zKeM σ0 (r.1)) := by
  unfold fX12_chip_32
  exact zpc_bi (w_fX12_fails h) (fun σ1 v2 hσ1 => zpc_if (fun _ => zpc_if (fun _ => zpc_if (fun _ => zpc_if (fun _ => zpc_bi (w_fX12_asks hσ1) (fun σ3 v4 hσ3 => zpc_if (fun _ => w_fX12_chip_136 hσ3) (fun _ => w_fX12_chip_136 hσ3))) (fun _ => zpc_if (fun _ => zpc_ck (zpc_some hσ1)) (fun _ => zpc_if (fun _ => zpc_ck (zpc_some hσ1)) (fun _ => zpc_if (fun _ => zpc_ck (zpc_some hσ1)) (fun _ => zpc_if (fun _ => zpc_ck (zpc_some hσ1)) (fun _ => zpc_if (fun _ => zpc_bi (w_fX12_mode hσ1) (fun σ5 v6 hσ5 => zpc_some hσ5)) (fun _ => zpc_if (fun _ => zpc_bi (w_fX12_height hσ1) (fun σ7 v8 hσ7 => zpc_some hσ7)) (fun _ => zpc_if (fun _ => zpc_bi (w_fX12_hCount hσ1) (fun σ9 v10 hσ9 => zpc_some hσ9)) (fun _ => zpc_bi (w_fX12_vCount hσ1) (fun σ11 v12 hσ11 => zpc_some hσ11)))))))))) (fun _ => zpc_ck (zpc_some hσ1))) (fun _ => zpc_ck (zpc_some hσ1))) (fun _ => zpc_some hσ1))
theorem w_fX12_chip_31 {σ0 : zSt} {σ : zSt} {x1 : Int32} (h : zKeM σ0 σ) : zpc (fX12_chip_31 σ x1) (fun r => zKeM σ0 (r.1)) := by
  unfold fX12_chip_31
  exact w_fX12_chip_32 h
theorem w_fX12_chip {σ0 : zSt} {σ : zSt} {x1 : Int32} (h : zKeM σ0 σ) : zpc (fX12_chip σ x1) (fun r => zKeM σ0 (r.1)) := by
  unfold fX12_chip
  exact zpc_bi (w_fX12_within h) (fun σ13 v14 hσ13 => zpc_if (fun _ => zpc_bi (w_fX12_within hσ13) (fun σ15 v16 hσ15 => zpc_if (fun _ => w_fX12_chip_32 hσ15) (fun _ => w_fX12_chip_31 hσ15))) (fun _ => w_fX12_chip_31 hσ13))
theorem w_fX12_trace_50 {σ0 : zSt} {σ : zSt} {s0 : Int32} (h : zKeM σ0 σ) : zpc (fX12_trace_50 σ s0) (fun r => zKeM σ0 (r.1)) := by
  unfold fX12_trace_50
  exact zpc_some h
theorem w_fX12_trace_27 {σ0 : zSt} {σ : zSt} (h : zKeM σ0 σ) : zpc (fX12_trace_27 σ) (fun r => zKeM σ0 (r.1)) := by
  unfold fX12_trace_27
  exact w_fX12_trace_50 h
theorem w_fX12_trace {σ0 : zSt} {σ : zSt} {x1 : Int32} (h : zKeM σ0 σ) : zpc (fX12_trace σ x1) (fun r => zKeM σ0 (r.1)) := by
  unfold fX12_trace
  exact zpc_bs (zKeM.w0 h (by decide)) (fun σ1 hσ1 => zpc_bi (w_fX12_within hσ1) (fun σ2 v3 hσ2 => zpc_if (fun _ => w_fX12_trace_27 hσ2) (fun _ => zpc_if (fun _ => zpc_ck (zpc_ck (w_fX12_trace_50 hσ2))) (fun _ => w_fX12_trace_27 hσ2))))
theorem w_fX12_look_116 {σ0 : zSt} {σ : zSt} {x1 : Int32} (h : zKeM σ0 σ) : zpc (fX12_look_116 σ x1) (fun r => zKeM σ0 (r.1)) := by
  unfold fX12_look_116
  exact zpc_ck (zpc_some h)
theorem w_fX12_look_169 {σ0 : zSt} {σ : zSt} {x1 : Int32} (h : zKeM σ0 σ) : zpc (fX12_look_169 σ x1) (fun r => zKeM σ0 (r.1)) := by
  unfold fX12_look_169
  exact zpc_ck (zpc_some h)
theorem w_fX12_look_222 {σ0 : zSt} {σ : zSt} {s0 : Int64} (h : zKeM σ0 σ) : zpc (fX12_look_222 σ s0) (fun r => zKeM σ0 (r.1)) := by
  unfold fX12_look_222
  exact zpc_some h
theorem w_fX12_look_18 {σ0 : zSt} {σ : zSt} {x1 : Int32} {s0 : Int32} (h : zKeM σ0 σ) : zpc (fX12_look_18 σ x1 s0) (fun r => zKeM σ0 (r.1)) := by
  unfold fX12_look_18
  exact zpc_bi (w_fX12_fails h) (fun σ1 v2 hσ1 => zpc_if (fun _ => zpc_if (fun _ => w_fX12_look_116 hσ1) (fun _ => zpc_if (fun _ => w_fX12_look_116 hσ1) (fun _ => zpc_if (fun _ => w_fX12_look_116 hσ1) (fun _ => zpc_if (fun _ => zpc_ck (zpc_some hσ1)) (fun _ => zpc_if (fun _ => zpc_ck (zpc_some hσ1)) (fun _ => zpc_if (fun _ => zpc_some hσ1) (fun _ => zpc_if (fun _ => zpc_ck (zpc_some hσ1)) (fun _ => zpc_if (fun _ => zpc_some hσ1) (fun _ => zpc_if (fun _ => zpc_ck (zpc_some hσ1)) (fun _ => zpc_if (fun _ => w_fX12_look_169 hσ1) (fun _ => zpc_if (fun _ => w_fX12_look_169 hσ1) (fun _ => zpc_if (fun _ => w_fX12_look_169 hσ1) (fun _ => zpc_if (fun _ => zpc_ck (zpc_some hσ1)) (fun _ => zpc_if (fun _ => zpc_ck (zpc_some hσ1)) (fun _ => zpc_if (fun _ => zpc_ck (zpc_some hσ1)) (fun _ => zpc_if (fun _ => zpc_if (fun _ => w_fX12_look_222 hσ1) (fun _ => w_fX12_look_222 hσ1)) (fun _ => zpc_if (fun _ => zpc_ck (zpc_some hσ1)) (fun _ => zpc_if (fun _ => zpc_ck (zpc_some hσ1)) (fun _ => zpc_some hσ1))))))))))))))))))) (fun _ => zpc_some hσ1))
theorem w_fX12_look {σ0 : zSt} {σ : zSt} {x1 : Int32} (h : zKeM σ0 σ) : zpc (fX12_look σ x1) (fun r => zKeM σ0 (r.1)) := by
  unfold fX12_look
  exact zpc_bi (w_fX12_within h) (fun σ3 v4 hσ3 => zpc_if (fun _ => w_fX12_look_18 hσ3) (fun _ => w_fX12_look_18 hσ3))
theorem w_fX12_mix_17 {σ0 : zSt} {σ : zSt} {s0 : Int32} (h : zKeM σ0 σ) : zpc (fX12_mix_17 σ s0) (fun r => zKeM σ0 (r.1)) := by
  unfold fX12_mix_17
  exact zpc_bi (w_fX12_fails h) (fun σ1 v2 hσ1 => zpc_if (fun _ => zpc_ck (zpc_ck (zpc_bv (fun v3 _ => zpc_ck (zpc_ck (zpc_ck (zpc_bs (zKeM.wi hσ1 (by decide)) (fun σ4 hσ4 => zpc_ck (zpc_ck (zpc_bs (zKeM.wi hσ4 (by decide)) (fun σ5 hσ5 => zpc_some hσ5))))))))))) (fun _ => zpc_some hσ1))
theorem w_fX12_mix {σ0 : zSt} {σ : zSt} (h : zKeM σ0 σ) : zpc (fX12_mix σ) (fun r => zKeM σ0 (r.1)) := by
  unfold fX12_mix
  exact zpc_ck (zpc_if (fun _ => w_fX12_mix_17 h) (fun _ => w_fX12_mix_17 h))
theorem w_fX12_wave_41 {σ0 : zSt} {σ : zSt} {x1 : Int32} {s0 : Int32} (h : zKeM σ0 σ) : zpc (fX12_wave_41 σ x1 s0) (fun r => zKeM σ0 (r.1)) := by
  unfold fX12_wave_41
  exact zpc_bi (w_fX12_fails h) (fun σ1 v2 hσ1 => zpc_if (fun _ => zpc_if (fun _ => zpc_if (fun _ => zpc_ck (zpc_some hσ1)) (fun _ => zpc_if (fun _ => zpc_ck (zpc_some hσ1)) (fun _ => zpc_if (fun _ => zpc_ck (zpc_ck (zpc_some hσ1))) (fun _ => zpc_if (fun _ => zpc_ck (zpc_some hσ1)) (fun _ => zpc_ck (zpc_ck (zpc_ck (zpc_some hσ1)))))))) (fun _ => zpc_bi (w_fX12_wreg hσ1) (fun σ3 v4 hσ3 => zpc_some hσ3))) (fun _ => zpc_some hσ1))
theorem w_fX12_wave_40 {σ0 : zSt} {σ : zSt} {x1 : Int32} (h : zKeM σ0 σ) : zpc (fX12_wave_40 σ x1) (fun r => zKeM σ0 (r.1)) := by
  unfold fX12_wave_40
  exact w_fX12_wave_41 h
theorem w_fX12_wave_36 {σ0 : zSt} {σ : zSt} {x1 : Int32} (h : zKeM σ0 σ) : zpc (fX12_wave_36 σ x1) (fun r => zKeM σ0 (r.1)) := by
  unfold fX12_wave_36
  exact w_fX12_wave_41 h
theorem w_fX12_wave {σ0 : zSt} {σ : zSt} {x1 : Int32} (h : zKeM σ0 σ) : zpc (fX12_wave σ x1) (fun r => zKeM σ0 (r.1)) := by
  unfold fX12_wave
  exact zpc_bi (w_fX12_within h) (fun σ5 v6 hσ5 => zpc_if (fun _ => zpc_bi (w_fX12_within hσ5) (fun σ7 v8 hσ7 => zpc_if (fun _ => w_fX12_wave_36 hσ7) (fun _ => zpc_ck (zpc_if (fun _ => w_fX12_wave_40 hσ7) (fun _ => w_fX12_wave_36 hσ7))))) (fun _ => w_fX12_wave_40 hσ5))
theorem w_fX12_plan_110 {σ0 : zSt} {σ : zSt} (h : zKeM σ0 σ) : zpc (fX12_plan_110 σ) (fun r => zKeM σ0 (r.1)) := by
  unfold fX12_plan_110
  exact zpc_some h
theorem w_fX12_plan_103 {σ0 : zSt} {σ : zSt} {x1 : Int32} {x2 : Int32} {x3 : Int32} {s0 : Int32} (h : zKeM σ0 σ) : zpc (fX12_plan_103 σ x1 x2 x3 s0) (fun r => zKeM σ0 (r.1)) := by
  unfold fX12_plan_103
  exact zpc_bi (w_fX12_fails h) (fun σ1 v2 hσ1 => zpc_if (fun _ => zpc_ck (zpc_bv (fun v3 _ => zpc_ck (zpc_bs (zKeM.wi hσ1 (by decide)) (fun σ4 hσ4 => zpc_ck (zpc_bs (zKeM.wi hσ4 (by decide)) (fun σ5 hσ5 => zpc_ck (zpc_bs (zKeM.wi hσ5 (by decide)) (fun σ6 hσ6 => zpc_ck (zpc_ck (zpc_bs (zKeM.wi hσ6 (by decide)) (fun σ7 hσ7 => zpc_ck (zpc_some hσ7))))))))))))) (fun _ => w_fX12_plan_110 hσ1))
theorem w_fX12_plan_76 {σ0 : zSt} {σ : zSt} {x1 : Int32} {x2 : Int32} {x3 : Int32} {s0 : Int32} (h : zKeM σ0 σ) : zpc (fX12_plan_76 σ x1 x2 x3 s0) (fun r => zKeM σ0 (r.1)) := by
  unfold fX12_plan_76
  exact zpc_bi (w_fX12_fails h) (fun σ8 v9 hσ8 => zpc_if (fun _ => zpc_ck (zpc_if (fun _ => w_fX12_plan_103 hσ8) (fun _ => w_fX12_plan_103 hσ8))) (fun _ => w_fX12_plan_110 hσ8))
theorem w_fX12_plan_71 {σ0 : zSt} {σ : zSt} {x1 : Int32} {x2 : Int32} {x3 : Int32} (h : zKeM σ0 σ) : zpc (fX12_plan_71 σ x1 x2 x3) (fun r => zKeM σ0 (r.1)) := by
  unfold fX12_plan_71
  exact w_fX12_plan_76 h
theorem w_fX12_plan_36 {σ0 : zSt} {σ : zSt} {x1 : Int32} {x2 : Int32} {x3 : Int32} {s0 : Int32} (h : zKeM σ0 σ) : zpc (fX12_plan_36 σ x1 x2 x3 s0) (fun r => zKeM σ0 (r.1)) := by
  unfold fX12_plan_36
  exact zpc_if (fun _ => w_fX12_plan_71 h) (fun _ => zpc_if (fun _ => w_fX12_plan_71 h) (fun _ => zpc_bi (w_fX12_within h) (fun σ10 v11 hσ10 => zpc_if (fun _ => w_fX12_plan_71 hσ10) (fun _ => zpc_bi (w_fX12_within hσ10) (fun σ12 v13 hσ12 => zpc_if (fun _ => w_fX12_plan_71 hσ12) (fun _ => w_fX12_plan_76 hσ12))))))
theorem w_fX12_plan {σ0 : zSt} {σ : zSt} {x1 : Int32} {x2 : Int32} {x3 : Int32} (h : zKeM σ0 σ) : zpc (fX12_plan σ x1 x2 x3) (fun r => zKeM σ0 (r.1)) := by
  unfold fX12_plan
  exact zpc_ck (zpc_if (fun _ => w_fX12_plan_36 h) (fun _ => zpc_ck (zpc_ck (w_fX12_plan_36 h))))
theorem w_fX12_say_2_body {σ0 : zSt} {k2 : zSt → Nat → Int32 → Option (zSt)} (hk2 : ∀ (y0 : zSt) (y1 : Nat) (y2 : Int32), zKeM σ0 y0 → zpc (k2 y0 y1 y2) (fun r => zKeM σ0 (r))) {σ : zSt} {n1 : Nat} {x2 : Int32} (h : zKeM σ0 σ) : zpc (fX12_say_2_body k2 σ n1 x2) (fun r => zKeM σ0 (r)) := by
  unfold fX12_say_2_body
  exact zpc_ck (zpc_if (fun _ => zpc_some h) (fun _ => zpc_ck (zpc_ck (zpc_ck (zpc_bs (zKeM.wi h (by decide)) (fun σ1 hσ1 => zpc_bs (zKeM.w0 hσ1 (by decide)) (fun σ2 hσ2 => zpc_bv (fun v3 _ => hk2 _ _ _ hσ2))))))))
theorem w_fX12_say_2 {σ0 : zSt} : ∀ (n : Nat) (y0 : zSt) (y1 : Nat) (y2 : Int32), zKeM σ0 y0 → zpc (fX12_say_2 n y0 y1 y2) (fun r => zKeM σ0 (r)) := by
  intro n
  induction n with
  | zero => intro y0 y1 y2 h; exact zpc_none
  | succ n ih => intro y0 y1 y2 h; exact w_fX12_say_2_body ih h
theorem w_fX12_say {σ0 : zSt} {σ : zSt} {n1 : Nat} (h : zKeM σ0 σ) : zpc (fX12_say σ n1) (fun r => zKeM σ0 (r)) := by
  unfold fX12_say
  exact w_fX12_say_2 _ _ _ _ h
theorem w_fX12_hex_49 {σ0 : zSt} {k4 : zSt → Int32 → Int32 → Option (zSt)} (hk4 : ∀ (y0 : zSt) (y1 : Int32) (y2 : Int32), zKeM σ0 y0 → zpc (k4 y0 y1 y2) (fun r => zKeM σ0 (r))) {σ : zSt} {x1 : Int32} {x3 : Int32} {s0 : Int32} {s1 : Int32} (h : zKeM σ0 σ) : zpc (fX12_hex_49 k4 σ x1 x3 s0 s1) (fun r => zKeM σ0 (r)) := by
  unfold fX12_hex_49
  exact zpc_ck (zpc_bs (zKeM.wi h (by decide)) (fun σ1 hσ1 => zpc_bs (zKeM.w0 hσ1 (by decide)) (fun σ2 hσ2 => zpc_bv (fun v3 _ => hk4 _ _ _ hσ2))))
theorem w_fX12_hex_4_body {σ0 : zSt} {k4 : zSt → Int32 → Int32 → Option (zSt)} (hk4 : ∀ (y0 : zSt) (y1 : Int32) (y2 : Int32), zKeM σ0 y0 → zpc (k4 y0 y1 y2) (fun r => zKeM σ0 (r))) {σ : zSt} {x1 : Int32} {x3 : Int32} (h : zKeM σ0 σ) : zpc (fX12_hex_4_body k4 σ x1 x3) (fun r => zKeM σ0 (r)) := by
  unfold fX12_hex_4_body
  exact zpc_if (fun _ => zpc_some h) (fun _ => zpc_bv (fun v4 _ => zpc_if (fun _ => w_fX12_hex_49 hk4 h) (fun _ => w_fX12_hex_49 hk4 h)))
theorem w_fX12_hex_4 {σ0 : zSt} : ∀ (n : Nat) (y0 : zSt) (y1 : Int32) (y2 : Int32), zKeM σ0 y0 → zpc (fX12_hex_4 n y0 y1 y2) (fun r => zKeM σ0 (r)) := by
  intro n
  induction n with
  | zero => intro y0 y1 y2 h; exact zpc_none
  | succ n ih => intro y0 y1 y2 h; exact w_fX12_hex_4_body ih h
theorem w_fX12_hex {σ0 : zSt} {σ : zSt} {x1 : Int32} {x2 : Int32} (h : zKeM σ0 σ) : zpc (fX12_hex σ x1 x2) (fun r => zKeM σ0 (r)) := by
  unfold fX12_hex
  exact zpc_bv (fun v5 _ => w_fX12_hex_4 _ _ _ _ h)
theorem w_fX12_taken {σ0 : zSt} {σ : zSt} (h : zKeM σ0 σ) : zpc (fX12_taken σ) (fun r => zKeM σ0 (r.1)) := by
  unfold fX12_taken
  exact zpc_bi (w_fX12_read h) (fun σ1 v2 hσ1 => zpc_bs (zKeM.w0 hσ1 (by decide)) (fun σ3 hσ3 => zpc_some hσ3))
theorem w_fX12_takenWord {σ0 : zSt} {σ : zSt} (h : zKeM σ0 σ) : zpc (fX12_takenWord σ) (fun r => zKeM σ0 (r.1)) := by
  unfold fX12_takenWord
  exact zpc_bi (w_fX12_taken h) (fun σ1 v2 hσ1 => zpc_bi (w_fX12_taken hσ1) (fun σ3 v4 hσ3 => zpc_some hσ3))
theorem w_fX12_sayHl_31 {σ0 : zSt} {σ : zSt} {s0 : Nat} (h : zKeM σ0 σ) : zpc (fX12_sayHl_31 σ s0) (fun r => zKeM σ0 (r)) := by
  unfold fX12_sayHl_31
  exact zpc_bu (w_fX12_say h) (fun σ1 hσ1 => zpc_some hσ1)
theorem w_fX12_sayHl {σ0 : zSt} {σ : zSt} (h : zKeM σ0 σ) : zpc (fX12_sayHl σ) (fun r => zKeM σ0 (r)) := by
  unfold fX12_sayHl
  exact zpc_if (fun _ => w_fX12_sayHl_31 h) (fun _ => zpc_if (fun _ => w_fX12_sayHl_31 h) (fun _ => w_fX12_sayHl_31 h))
theorem w_fX12_sayPlace_76 {σ0 : zSt} {σ : zSt} {s0 : Int32} (h : zKeM σ0 σ) : zpc (fX12_sayPlace_76 σ s0) (fun r => zKeM σ0 (r)) := by
  unfold fX12_sayPlace_76
  exact zpc_bu (w_fX12_hex h) (fun σ1 hσ1 => zpc_bu (w_fX12_say hσ1) (fun σ2 hσ2 => zpc_some hσ2))
theorem w_fX12_sayPlace_53 {σ0 : zSt} {σ : zSt} {s0 : Nat} (h : zKeM σ0 σ) : zpc (fX12_sayPlace_53 σ s0) (fun r => zKeM σ0 (r)) := by
  unfold fX12_sayPlace_53
  exact zpc_bu (w_fX12_say h) (fun σ3 hσ3 => zpc_if (fun _ => w_fX12_sayPlace_76 hσ3) (fun _ => w_fX12_sayPlace_76 hσ3))
theorem w_fX12_sayPlace_33 {σ0 : zSt} {σ : zSt} {s0 : Nat} (h : zKeM σ0 σ) : zpc (fX12_sayPlace_33 σ s0) (fun r => zKeM σ0 (r)) := by
  unfold fX12_sayPlace_33
  exact zpc_bu (w_fX12_say h) (fun σ4 hσ4 => zpc_if (fun _ => w_fX12_sayPlace_53 hσ4) (fun _ => w_fX12_sayPlace_53 hσ4))
theorem w_fX12_sayPlace {σ0 : zSt} {σ : zSt} (h : zKeM σ0 σ) : zpc (fX12_sayPlace σ) (fun r => zKeM σ0 (r)) := by
  unfold fX12_sayPlace
  exact zpc_if (fun _ => zpc_bu (w_fX12_say h) (fun σ5 hσ5 => zpc_some hσ5)) (fun _ => zpc_if (fun _ => w_fX12_sayPlace_33 h) (fun _ => w_fX12_sayPlace_33 h))
theorem w_fX12_sayR_108 {σ0 : zSt} {σ : zSt} {s0 : Nat} (h : zKeM σ0 σ) : zpc (fX12_sayR_108 σ s0) (fun r => zKeM σ0 (r)) := by
  unfold fX12_sayR_108
  exact zpc_bu (w_fX12_say h) (fun σ1 hσ1 => zpc_some hσ1)
theorem w_fX12_sayR_39 {σ0 : zSt} {σ : zSt} {x1 : Int32} (h : zKeM σ0 σ) : zpc (fX12_sayR_39 σ x1) (fun r => zKeM σ0 (r)) := by
  unfold fX12_sayR_39
  exact zpc_if (fun _ => w_fX12_sayR_108 h) (fun _ => zpc_if (fun _ => w_fX12_sayR_108 h) (fun _ => zpc_if (fun _ => w_fX12_sayR_108 h) (fun _ => zpc_if (fun _ => w_fX12_sayR_108 h) (fun _ => zpc_if (fun _ => w_fX12_sayR_108 h) (fun _ => zpc_if (fun _ => w_fX12_sayR_108 h) (fun _ => w_fX12_sayR_108 h))))))
theorem w_fX12_sayR_35 {σ0 : zSt} {σ : zSt} {x1 : Int32} (h : zKeM σ0 σ) : zpc (fX12_sayR_35 σ x1) (fun r => zKeM σ0 (r)) := by
  unfold fX12_sayR_35
  exact zpc_bu (w_fX12_sayHl h) (fun σ2 hσ2 => w_fX12_sayR_39 hσ2)
theorem w_fX12_sayR {σ0 : zSt} {σ : zSt} {x1 : Int32} (h : zKeM σ0 σ) : zpc (fX12_sayR σ x1) (fun r => zKeM σ0 (r)) := by
  unfold fX12_sayR
  exact zpc_if (fun _ => zpc_bu (w_fX12_sayPlace h) (fun σ3 hσ3 => zpc_some hσ3)) (fun _ => zpc_if (fun _ => w_fX12_sayR_39 h) (fun _ => zpc_if (fun _ => zpc_if (fun _ => w_fX12_sayR_35 h) (fun _ => zpc_if (fun _ => w_fX12_sayR_35 h) (fun _ => w_fX12_sayR_39 h))) (fun _ => w_fX12_sayR_39 h)))
theorem w_fX12_sayRp_50 {σ0 : zSt} {σ : zSt} (h : zKeM σ0 σ) : zpc (fX12_sayRp_50 σ) (fun r => zKeM σ0 (r)) := by
  unfold fX12_sayRp_50
  exact zpc_some h
theorem w_fX12_sayRp_47 {σ0 : zSt} {σ : zSt} {s0 : Nat} (h : zKeM σ0 σ) : zpc (fX12_sayRp_47 σ s0) (fun r => zKeM σ0 (r)) := by
  unfold fX12_sayRp_47
  exact zpc_bu (w_fX12_say h) (fun σ1 hσ1 => w_fX12_sayRp_50 hσ1)
theorem w_fX12_sayRp {σ0 : zSt} {σ : zSt} {x1 : Int32} {x2 : Int32} (h : zKeM σ0 σ) : zpc (fX12_sayRp σ x1 x2) (fun r => zKeM σ0 (r)) := by
  unfold fX12_sayRp
  exact zpc_if (fun _ => zpc_bu (w_fX12_sayHl h) (fun σ2 hσ2 => w_fX12_sayRp_50 hσ2)) (fun _ => zpc_if (fun _ => w_fX12_sayRp_47 h) (fun _ => zpc_if (fun _ => w_fX12_sayRp_47 h) (fun _ => zpc_if (fun _ => w_fX12_sayRp_47 h) (fun _ => w_fX12_sayRp_47 h))))
theorem w_fX12_sayCc_81 {σ0 : zSt} {σ : zSt} {s0 : Nat} (h : zKeM σ0 σ) : zpc (fX12_sayCc_81 σ s0) (fun r => zKeM σ0 (r)) := by
  unfold fX12_sayCc_81
  exact zpc_bu (w_fX12_say h) (fun σ1 hσ1 => zpc_some hσ1)
theorem w_fX12_sayCc {σ0 : zSt} {σ : zSt} {x1 : Int32} (h : zKeM σ0 σ) : zpc (fX12_sayCc σ x1) (fun r => zKeM σ0 (r)) := by
  unfold fX12_sayCc
  exact zpc_if (fun _ => w_fX12_sayCc_81 h) (fun _ => zpc_if (fun _ => w_fX12_sayCc_81 h) (fun _ => zpc_if (fun _ => w_fX12_sayCc_81 h) (fun _ => zpc_if (fun _ => w_fX12_sayCc_81 h) (fun _ => zpc_if (fun _ => w_fX12_sayCc_81 h) (fun _ => zpc_if (fun _ => w_fX12_sayCc_81 h) (fun _ => zpc_if (fun _ => w_fX12_sayCc_81 h) (fun _ => w_fX12_sayCc_81 h)))))))
theorem w_fX12_sayPlaced {σ0 : zSt} {σ : zSt} {x1 : Int32} (h : zKeM σ0 σ) : zpc (fX12_sayPlaced σ x1) (fun r => zKeM σ0 (r)) := by
  unfold fX12_sayPlaced
  exact zpc_bu (w_fX12_say h) (fun σ1 hσ1 => zpc_bu (w_fX12_hex hσ1) (fun σ2 hσ2 => zpc_bu (w_fX12_say hσ2) (fun σ3 hσ3 => zpc_some hσ3)))
theorem w_fX12_sayJump {σ0 : zSt} {σ : zSt} (h : zKeM σ0 σ) : zpc (fX12_sayJump σ) (fun r => zKeM σ0 (r)) := by
  unfold fX12_sayJump
  exact zpc_bi (w_fX12_taken h) (fun σ1 v2 hσ1 => zpc_bi (w_fX12_signed hσ1) (fun σ3 v4 hσ3 => zpc_bu (w_fX12_hex hσ3) (fun σ5 hσ5 => zpc_some hσ5)))
theorem w_fX12_sayDo_81 {σ0 : zSt} {σ : zSt} {s0 : Nat} (h : zKeM σ0 σ) : zpc (fX12_sayDo_81 σ s0) (fun r => zKeM σ0 (r)) := by
  unfold fX12_sayDo_81
  exact zpc_bu (w_fX12_say h) (fun σ1 hσ1 => zpc_some hσ1)
theorem w_fX12_sayDo {σ0 : zSt} {σ : zSt} {x1 : Int32} (h : zKeM σ0 σ) : zpc (fX12_sayDo σ x1) (fun r => zKeM σ0 (r)) := by
  unfold fX12_sayDo
  exact zpc_if (fun _ => w_fX12_sayDo_81 h) (fun _ => zpc_if (fun _ => w_fX12_sayDo_81 h) (fun _ => zpc_if (fun _ => w_fX12_sayDo_81 h) (fun _ => zpc_if (fun _ => w_fX12_sayDo_81 h) (fun _ => zpc_if (fun _ => w_fX12_sayDo_81 h) (fun _ => zpc_if (fun _ => w_fX12_sayDo_81 h) (fun _ => zpc_if (fun _ => w_fX12_sayDo_81 h) (fun _ => w_fX12_sayDo_81 h)))))))
theorem w_fX12_sayTurn_146 {σ0 : zSt} {σ : zSt} {x1 : Int32} (h : zKeM σ0 σ) : zpc (fX12_sayTurn_146 σ x1) (fun r => zKeM σ0 (r)) := by
  unfold fX12_sayTurn_146
  exact zpc_bu (w_fX12_sayR h) (fun σ1 hσ1 => zpc_some hσ1)
theorem w_fX12_sayTurn_94 {σ0 : zSt} {σ : zSt} {x1 : Int32} {s0 : Nat} (h : zKeM σ0 σ) : zpc (fX12_sayTurn_94 σ x1 s0) (fun r => zKeM σ0 (r)) := by
  unfold fX12_sayTurn_94
  exact zpc_bu (w_fX12_say h) (fun σ2 hσ2 => w_fX12_sayTurn_146 hσ2)
theorem w_fX12_sayTurn_130 {σ0 : zSt} {σ : zSt} {x1 : Int32} {x2 : Int32} {s0 : Nat} (h : zKeM σ0 σ) : zpc (fX12_sayTurn_130 σ x1 x2 s0) (fun r => zKeM σ0 (r)) := by
  unfold fX12_sayTurn_130
  exact zpc_bu (w_fX12_say h) (fun σ3 hσ3 => zpc_bu (w_fX12_hex hσ3) (fun σ4 hσ4 => zpc_bu (w_fX12_say hσ4) (fun σ5 hσ5 => w_fX12_sayTurn_146 hσ5)))
theorem w_fX12_sayTurn {σ0 : zSt} {σ : zSt} {x1 : Int32} (h : zKeM σ0 σ) : zpc (fX12_sayTurn σ x1) (fun r => zKeM σ0 (r)) := by
  unfold fX12_sayTurn
  exact zpc_bv (fun v6 _ => zpc_if (fun _ => zpc_if (fun _ => zpc_if (fun _ => w_fX12_sayTurn_130 h) (fun _ => w_fX12_sayTurn_130 h)) (fun _ => w_fX12_sayTurn_130 h)) (fun _ => zpc_if (fun _ => w_fX12_sayTurn_94 h) (fun _ => zpc_if (fun _ => w_fX12_sayTurn_94 h) (fun _ => zpc_if (fun _ => w_fX12_sayTurn_94 h) (fun _ => zpc_if (fun _ => w_fX12_sayTurn_94 h) (fun _ => zpc_if (fun _ => w_fX12_sayTurn_94 h) (fun _ => zpc_if (fun _ => w_fX12_sayTurn_94 h) (fun _ => zpc_if (fun _ => w_fX12_sayTurn_94 h) (fun _ => w_fX12_sayTurn_94 h)))))))))
theorem w_fX12_sayZero_301 {σ0 : zSt} {σ : zSt} (h : zKeM σ0 σ) : zpc (fX12_sayZero_301 σ) (fun r => zKeM σ0 (r)) := by
  unfold fX12_sayZero_301
  exact zpc_some h
theorem w_fX12_sayZero_80 {σ0 : zSt} {σ : zSt} {x1 : Int32} (h : zKeM σ0 σ) : zpc (fX12_sayZero_80 σ x1) (fun r => zKeM σ0 (r)) := by
  unfold fX12_sayZero_80
  exact zpc_if (fun _ => w_fX12_sayZero_301 h) (fun _ => zpc_bu (w_fX12_sayJump h) (fun σ1 hσ1 => w_fX12_sayZero_301 hσ1))
theorem w_fX12_sayZero_58 {σ0 : zSt} {σ : zSt} {x1 : Int32} {s0 : Nat} (h : zKeM σ0 σ) : zpc (fX12_sayZero_58 σ x1 s0) (fun r => zKeM σ0 (r)) := by
  unfold fX12_sayZero_58
  exact zpc_bu (w_fX12_say h) (fun σ2 hσ2 => zpc_if (fun _ => w_fX12_sayZero_80 hσ2) (fun _ => zpc_bu (w_fX12_sayCc hσ2) (fun σ3 hσ3 => zpc_bu (w_fX12_say hσ3) (fun σ4 hσ4 => w_fX12_sayZero_80 hσ4))))
theorem w_fX12_sayZero_133 {σ0 : zSt} {σ : zSt} {x3 : Int32} {x4 : Int32} (h : zKeM σ0 σ) : zpc (fX12_sayZero_133 σ x3 x4) (fun r => zKeM σ0 (r)) := by
  unfold fX12_sayZero_133
  exact zpc_bu (w_fX12_say h) (fun σ5 hσ5 => zpc_if (fun _ => zpc_bi (w_fX12_takenWord hσ5) (fun σ6 v7 hσ6 => zpc_bu (w_fX12_hex hσ6) (fun σ8 hσ8 => w_fX12_sayZero_301 hσ8))) (fun _ => zpc_bu (w_fX12_sayRp hσ5) (fun σ9 hσ9 => w_fX12_sayZero_301 hσ9)))
theorem w_fX12_sayZero_112 {σ0 : zSt} {σ : zSt} {x3 : Int32} {x4 : Int32} {s0 : Nat} (h : zKeM σ0 σ) : zpc (fX12_sayZero_112 σ x3 x4 s0) (fun r => zKeM σ0 (r)) := by
  unfold fX12_sayZero_112
  exact zpc_bu (w_fX12_say h) (fun σ10 hσ10 => zpc_if (fun _ => zpc_bu (w_fX12_sayRp hσ10) (fun σ11 hσ11 => w_fX12_sayZero_133 hσ11)) (fun _ => zpc_bu (w_fX12_sayHl hσ10) (fun σ12 hσ12 => w_fX12_sayZero_133 hσ12)))
theorem w_fX12_sayZero_186 {σ0 : zSt} {σ : zSt} {x3 : Int32} {s0 : Nat} (h : zKeM σ0 σ) : zpc (fX12_sayZero_186 σ x3 s0) (fun r => zKeM σ0 (r)) := by
  unfold fX12_sayZero_186
  exact zpc_bu (w_fX12_say h) (fun σ13 hσ13 => zpc_bu (w_fX12_sayRp hσ13) (fun σ14 hσ14 => w_fX12_sayZero_301 hσ14))
theorem w_fX12_sayZero_269 {σ0 : zSt} {σ : zSt} {x3 : Int32} {x4 : Int32} (h : zKeM σ0 σ) : zpc (fX12_sayZero_269 σ x3 x4) (fun r => zKeM σ0 (r)) := by
  unfold fX12_sayZero_269
  exact zpc_if (fun _ => zpc_bu (w_fX12_say h) (fun σ15 hσ15 => zpc_if (fun _ => zpc_bu (w_fX12_sayHl hσ15) (fun σ17 hσ17 => w_fX12_sayZero_301 hσ17)) (fun _ => zpc_bu (w_fX12_say hσ15) (fun σ16 hσ16 => w_fX12_sayZero_301 hσ16)))) (fun _ => zpc_some h)
theorem w_fX12_sayZero_255 {σ0 : zSt} {σ : zSt} {x3 : Int32} {x4 : Int32} {s0 : Nat} (h : zKeM σ0 σ) : zpc (fX12_sayZero_255 σ x3 x4 s0) (fun r => zKeM σ0 (r)) := by
  unfold fX12_sayZero_255
  exact zpc_bu (w_fX12_say h) (fun σ18 hσ18 => w_fX12_sayZero_269 hσ18)
theorem w_fX12_sayZero_236 {σ0 : zSt} {σ : zSt} {x3 : Int32} {x4 : Int32} (h : zKeM σ0 σ) : zpc (fX12_sayZero_236 σ x3 x4) (fun r => zKeM σ0 (r)) := by
  unfold fX12_sayZero_236
  exact zpc_if (fun _ => zpc_bi (w_fX12_takenWord h) (fun σ19 v20 hσ19 => zpc_bu (w_fX12_sayPlaced hσ19) (fun σ21 hσ21 => w_fX12_sayZero_269 hσ21))) (fun _ => zpc_if (fun _ => w_fX12_sayZero_255 h) (fun _ => w_fX12_sayZero_255 h))
theorem w_fX12_sayZero_229 {σ0 : zSt} {σ : zSt} {x3 : Int32} {x4 : Int32} (h : zKeM σ0 σ) : zpc (fX12_sayZero_229 σ x3 x4) (fun r => zKeM σ0 (r)) := by
  unfold fX12_sayZero_229
  exact zpc_bu (w_fX12_say h) (fun σ22 hσ22 => w_fX12_sayZero_236 hσ22)
theorem w_fX12_sayZero_16 {σ0 : zSt} {σ : zSt} {x1 : Int32} {x2 : Int32} {x3 : Int32} {s0 : Int32} (h : zKeM σ0 σ) : zpc (fX12_sayZero_16 σ x1 x2 x3 s0) (fun r => zKeM σ0 (r)) := by
  unfold fX12_sayZero_16
  exact zpc_if (fun _ => zpc_if (fun _ => w_fX12_sayZero_58 h) (fun _ => zpc_if (fun _ => w_fX12_sayZero_58 h) (fun _ => zpc_if (fun _ => w_fX12_sayZero_58 h) (fun _ => w_fX12_sayZero_58 h)))) (fun _ => zpc_if (fun _ => zpc_if (fun _ => w_fX12_sayZero_112 h) (fun _ => w_fX12_sayZero_112 h)) (fun _ => zpc_if (fun _ => zpc_if (fun _ => w_fX12_sayZero_186 h) (fun _ => w_fX12_sayZero_186 h)) (fun _ => zpc_bu (w_fX12_say h) (fun σ23 hσ23 => zpc_if (fun _ => w_fX12_sayZero_236 hσ23) (fun _ => zpc_if (fun _ => zpc_bu (w_fX12_sayHl hσ23) (fun σ25 hσ25 => w_fX12_sayZero_229 hσ25)) (fun _ => zpc_bu (w_fX12_say hσ23) (fun σ24 hσ24 => w_fX12_sayZero_229 hσ24)))))))
theorem w_fX12_sayZero {σ0 : zSt} {σ : zSt} {x1 : Int32} {x2 : Int32} (h : zKeM σ0 σ) : zpc (fX12_sayZero σ x1 x2) (fun r => zKeM σ0 (r)) := by
  unfold fX12_sayZero
  exact zpc_bv (fun v26 _ => zpc_ck (zpc_if (fun _ => w_fX12_sayZero_16 h) (fun _ => w_fX12_sayZero_16 h)))
theorem w_fX12_saySingle_87 {σ0 : zSt} {σ : zSt} {s0 : Nat} (h : zKeM σ0 σ) : zpc (fX12_saySingle_87 σ s0) (fun r => zKeM σ0 (r)) := by
  unfold fX12_saySingle_87
  exact zpc_bu (w_fX12_say h) (fun σ1 hσ1 => zpc_some hσ1)
theorem w_fX12_saySingle_117 {σ0 : zSt} {σ : zSt} {x1 : Int32} {x2 : Int32} {s0 : Nat} (h : zKeM σ0 σ) : zpc (fX12_saySingle_117 σ x1 x2 s0) (fun r => zKeM σ0 (r)) := by
  unfold fX12_saySingle_117
  exact zpc_bu (w_fX12_say h) (fun σ2 hσ2 => zpc_bu (w_fX12_sayR hσ2) (fun σ3 hσ3 => zpc_if (fun _ => zpc_bu (w_fX12_say hσ3) (fun σ4 hσ4 => zpc_bi (w_fX12_taken hσ4) (fun σ5 v6 hσ5 => zpc_bu (w_fX12_hex hσ5) (fun σ7 hσ7 => zpc_some hσ7)))) (fun _ => zpc_some hσ3)))
theorem w_fX12_saySingle {σ0 : zSt} {σ : zSt} {x1 : Int32} {x2 : Int32} (h : zKeM σ0 σ) : zpc (fX12_saySingle σ x1 x2) (fun r => zKeM σ0 (r)) := by
  unfold fX12_saySingle
  exact zpc_if (fun _ => zpc_if (fun _ => w_fX12_saySingle_87 h) (fun _ => zpc_if (fun _ => w_fX12_saySingle_87 h) (fun _ => zpc_if (fun _ => w_fX12_saySingle_87 h) (fun _ => zpc_if (fun _ => w_fX12_saySingle_87 h) (fun _ => zpc_if (fun _ => w_fX12_saySingle_87 h) (fun _ => zpc_if (fun _ => w_fX12_saySingle_87 h) (fun _ => zpc_if (fun _ => w_fX12_saySingle_87 h) (fun _ => w_fX12_saySingle_87 h)))))))) (fun _ => zpc_if (fun _ => w_fX12_saySingle_117 h) (fun _ => zpc_if (fun _ => w_fX12_saySingle_117 h) (fun _ => w_fX12_saySingle_117 h)))
theorem w_fX12_sayThree_266 {σ0 : zSt} {σ : zSt} (h : zKeM σ0 σ) : zpc (fX12_sayThree_266 σ) (fun r => zKeM σ0 (r)) := by
  unfold fX12_sayThree_266
  exact zpc_some h
theorem w_fX12_sayThree_103 {σ0 : zSt} {σ : zSt} {x3 : Int32} (h : zKeM σ0 σ) : zpc (fX12_sayThree_103 σ x3) (fun r => zKeM σ0 (r)) := by
  unfold fX12_sayThree_103
  exact zpc_if (fun _ => zpc_bu (w_fX12_say h) (fun σ1 hσ1 => w_fX12_sayThree_266 hσ1)) (fun _ => w_fX12_sayThree_266 h)
theorem w_fX12_sayThree_91 {σ0 : zSt} {σ : zSt} {x3 : Int32} {s0 : Nat} (h : zKeM σ0 σ) : zpc (fX12_sayThree_91 σ x3 s0) (fun r => zKeM σ0 (r)) := by
  unfold fX12_sayThree_91
  exact zpc_bu (w_fX12_say h) (fun σ2 hσ2 => zpc_if (fun _ => w_fX12_sayThree_103 hσ2) (fun _ => zpc_bu (w_fX12_sayHl hσ2) (fun σ3 hσ3 => w_fX12_sayThree_103 hσ3)))
theorem w_fX12_sayThree_151 {σ0 : zSt} {σ : zSt} (h : zKeM σ0 σ) : zpc (fX12_sayThree_151 σ) (fun r => zKeM σ0 (r)) := by
  unfold fX12_sayThree_151
  exact zpc_bi (w_fX12_takenWord h) (fun σ4 v5 hσ4 => zpc_bu (w_fX12_hex hσ4) (fun σ6 hσ6 => w_fX12_sayThree_266 hσ6))
theorem w_fX12_sayThree_127 {σ0 : zSt} {σ : zSt} {x1 : Int32} {x2 : Int32} (h : zKeM σ0 σ) : zpc (fX12_sayThree_127 σ x1 x2) (fun r => zKeM σ0 (r)) := by
  unfold fX12_sayThree_127
  exact zpc_bu (w_fX12_say h) (fun σ7 hσ7 => zpc_if (fun _ => zpc_bu (w_fX12_sayCc hσ7) (fun σ8 hσ8 => zpc_bu (w_fX12_say hσ8) (fun σ9 hσ9 => w_fX12_sayThree_151 hσ9))) (fun _ => w_fX12_sayThree_151 hσ7))
theorem w_fX12_sayThree_210 {σ0 : zSt} {σ : zSt} {s0 : Nat} (h : zKeM σ0 σ) : zpc (fX12_sayThree_210 σ s0) (fun r => zKeM σ0 (r)) := by
  unfold fX12_sayThree_210
  exact zpc_bu (w_fX12_say h) (fun σ10 hσ10 => w_fX12_sayThree_266 hσ10)
theorem w_fX12_sayThree_183 {σ0 : zSt} {σ : zSt} {x1 : Int32} {s0 : Nat} (h : zKeM σ0 σ) : zpc (fX12_sayThree_183 σ x1 s0) (fun r => zKeM σ0 (r)) := by
  unfold fX12_sayThree_183
  exact zpc_bu (w_fX12_say h) (fun σ11 hσ11 => zpc_bi (w_fX12_taken hσ11) (fun σ12 v13 hσ12 => zpc_bu (w_fX12_hex hσ12) (fun σ14 hσ14 => zpc_if (fun _ => w_fX12_sayThree_210 hσ14) (fun _ => w_fX12_sayThree_210 hσ14))))
theorem w_fX12_sayThree_254 {σ0 : zSt} {σ : zSt} {x1 : Int32} {s0 : Nat} (h : zKeM σ0 σ) : zpc (fX12_sayThree_254 σ x1 s0) (fun r => zKeM σ0 (r)) := by
  unfold fX12_sayThree_254
  exact zpc_bu (w_fX12_say h) (fun σ15 hσ15 => zpc_if (fun _ => zpc_bu (w_fX12_sayHl hσ15) (fun σ16 hσ16 => w_fX12_sayThree_266 hσ16)) (fun _ => w_fX12_sayThree_266 hσ15))
theorem w_fX12_sayThree_50 {σ0 : zSt} {σ : zSt} {x1 : Int32} {x2 : Int32} {x3 : Int32} (h : zKeM σ0 σ) : zpc (fX12_sayThree_50 σ x1 x2 x3) (fun r => zKeM σ0 (r)) := by
  unfold fX12_sayThree_50
  exact zpc_if (fun _ => zpc_if (fun _ => w_fX12_sayThree_91 h) (fun _ => zpc_if (fun _ => w_fX12_sayThree_91 h) (fun _ => zpc_if (fun _ => w_fX12_sayThree_91 h) (fun _ => w_fX12_sayThree_91 h)))) (fun _ => zpc_if (fun _ => w_fX12_sayThree_127 h) (fun _ => zpc_if (fun _ => w_fX12_sayThree_127 h) (fun _ => zpc_if (fun _ => zpc_if (fun _ => w_fX12_sayThree_254 h) (fun _ => zpc_if (fun _ => w_fX12_sayThree_254 h) (fun _ => zpc_if (fun _ => w_fX12_sayThree_254 h) (fun _ => w_fX12_sayThree_254 h)))) (fun _ => zpc_if (fun _ => w_fX12_sayThree_183 h) (fun _ => w_fX12_sayThree_183 h)))))
theorem w_fX12_sayThree {σ0 : zSt} {σ : zSt} {x1 : Int32} {x2 : Int32} (h : zKeM σ0 σ) : zpc (fX12_sayThree σ x1 x2) (fun r => zKeM σ0 (r)) := by
  unfold fX12_sayThree
  exact zpc_bv (fun v17 _ => zpc_if (fun _ => zpc_bu (w_fX12_say h) (fun σ20 hσ20 => zpc_bu (w_fX12_sayCc hσ20) (fun σ21 hσ21 => w_fX12_sayThree_266 hσ21))) (fun _ => zpc_if (fun _ => zpc_ck (zpc_if (fun _ => zpc_bu (w_fX12_say h) (fun σ18 hσ18 => zpc_bu (w_fX12_sayRp hσ18) (fun σ19 hσ19 => w_fX12_sayThree_266 hσ19))) (fun _ => w_fX12_sayThree_50 h))) (fun _ => w_fX12_sayThree_50 h)))
theorem w_fX12_sayLast_115 {σ0 : zSt} {σ : zSt} (h : zKeM σ0 σ) : zpc (fX12_sayLast_115 σ) (fun r => zKeM σ0 (r)) := by
  unfold fX12_sayLast_115
  exact zpc_some h
theorem w_fX12_sayLast_43 {σ0 : zSt} {σ : zSt} (h : zKeM σ0 σ) : zpc (fX12_sayLast_43 σ) (fun r => zKeM σ0 (r)) := by
  unfold fX12_sayLast_43
  exact zpc_bi (w_fX12_takenWord h) (fun σ1 v2 hσ1 => zpc_bu (w_fX12_hex hσ1) (fun σ3 hσ3 => w_fX12_sayLast_115 hσ3))
theorem w_fX12_sayLast_19 {σ0 : zSt} {σ : zSt} {x1 : Int32} {x2 : Int32} (h : zKeM σ0 σ) : zpc (fX12_sayLast_19 σ x1 x2) (fun r => zKeM σ0 (r)) := by
  unfold fX12_sayLast_19
  exact zpc_bu (w_fX12_say h) (fun σ4 hσ4 => zpc_if (fun _ => zpc_bu (w_fX12_sayCc hσ4) (fun σ5 hσ5 => zpc_bu (w_fX12_say hσ5) (fun σ6 hσ6 => w_fX12_sayLast_43 hσ6))) (fun _ => w_fX12_sayLast_43 hσ4))
theorem w_fX12_sayLast_55 {σ0 : zSt} {σ : zSt} {x1 : Int32} {x2 : Int32} {x3 : Int32} (h : zKeM σ0 σ) : zpc (fX12_sayLast_55 σ x1 x2 x3) (fun r => zKeM σ0 (r)) := by
  unfold fX12_sayLast_55
  exact zpc_if (fun _ => zpc_bu (w_fX12_say h) (fun σ13 hσ13 => zpc_bu (w_fX12_sayRp hσ13) (fun σ14 hσ14 => w_fX12_sayLast_115 hσ14))) (fun _ => zpc_if (fun _ => zpc_bu (w_fX12_sayDo h) (fun σ9 hσ9 => zpc_bi (w_fX12_taken hσ9) (fun σ10 v11 hσ10 => zpc_bu (w_fX12_hex hσ10) (fun σ12 hσ12 => w_fX12_sayLast_115 hσ12)))) (fun _ => zpc_bu (w_fX12_say h) (fun σ7 hσ7 => zpc_bu (w_fX12_hex hσ7) (fun σ8 hσ8 => w_fX12_sayLast_115 hσ8))))
theorem w_fX12_sayLast {σ0 : zSt} {σ : zSt} {x1 : Int32} {x2 : Int32} (h : zKeM σ0 σ) : zpc (fX12_sayLast σ x1 x2) (fun r => zKeM σ0 (r)) := by
  unfold fX12_sayLast
  exact zpc_bv (fun v15 _ => zpc_if (fun _ => w_fX12_sayLast_19 h) (fun _ => zpc_if (fun _ => zpc_if (fun _ => w_fX12_sayLast_19 h) (fun _ => w_fX12_sayLast_55 h)) (fun _ => w_fX12_sayLast_55 h)))
theorem w_fX12_sayPlain_137 {σ0 : zSt} {σ : zSt} (h : zKeM σ0 σ) : zpc (fX12_sayPlain_137 σ) (fun r => zKeM σ0 (r)) := by
  unfold fX12_sayPlain_137
  exact zpc_some h
theorem w_fX12_sayPlain_32 {σ0 : zSt} {σ : zSt} {x1 : Int32} {x2 : Int32} {x3 : Int32} (h : zKeM σ0 σ) : zpc (fX12_sayPlain_32 σ x1 x2 x3) (fun r => zKeM σ0 (r)) := by
  unfold fX12_sayPlain_32
  exact zpc_if (fun _ => zpc_if (fun _ => zpc_bu (w_fX12_say h) (fun σ9 hσ9 => w_fX12_sayPlain_137 hσ9)) (fun _ => zpc_if (fun _ => zpc_if (fun _ => zpc_if (fun _ => zpc_bu (w_fX12_sayLast h) (fun σ1 hσ1 => w_fX12_sayPlain_137 hσ1)) (fun _ => zpc_bu (w_fX12_sayThree h) (fun σ2 hσ2 => w_fX12_sayPlain_137 hσ2))) (fun _ => zpc_bu (w_fX12_sayDo h) (fun σ3 hσ3 => zpc_bu (w_fX12_sayR hσ3) (fun σ4 hσ4 => w_fX12_sayPlain_137 hσ4)))) (fun _ => zpc_bu (w_fX12_say h) (fun σ5 hσ5 => zpc_bu (w_fX12_sayR hσ5) (fun σ6 hσ6 => zpc_bu (w_fX12_say hσ6) (fun σ7 hσ7 => zpc_bu (w_fX12_sayR hσ7) (fun σ8 hσ8 => w_fX12_sayPlain_137 hσ8))))))) (fun _ => zpc_bu (w_fX12_saySingle h) (fun σ10 hσ10 => w_fX12_sayPlain_137 hσ10))
theorem w_fX12_sayPlain {σ0 : zSt} {σ : zSt} {x1 : Int32} (h : zKeM σ0 σ) : zpc (fX12_sayPlain σ x1) (fun r => zKeM σ0 (r)) := by
  unfold fX12_sayPlain
  exact zpc_bv (fun v11 _ => zpc_bv (fun v12 _ => zpc_if (fun _ => w_fX12_sayPlain_32 h) (fun _ => zpc_if (fun _ => w_fX12_sayPlain_32 h) (fun _ => zpc_bu (w_fX12_sayZero h) (fun σ13 hσ13 => w_fX12_sayPlain_137 hσ13)))))
theorem w_fX12_sayPrefixed_30 {σ0 : zSt} {σ : zSt} (h : zKeM σ0 σ) : zpc (fX12_sayPrefixed_30 σ) (fun r => zKeM σ0 (r)) := by
  unfold fX12_sayPrefixed_30
  exact zpc_bu (w_fX12_say h) (fun σ1 hσ1 => zpc_some hσ1)
theorem w_fX12_sayPrefixed_133 {σ0 : zSt} {σ : zSt} (h : zKeM σ0 σ) : zpc (fX12_sayPrefixed_133 σ) (fun r => zKeM σ0 (r)) := by
  unfold fX12_sayPrefixed_133
  exact zpc_some h
theorem w_fX12_sayPrefixed_240 {σ0 : zSt} {σ : zSt} {x2 : Int32} (h : zKeM σ0 σ) : zpc (fX12_sayPrefixed_240 σ x2) (fun r => zKeM σ0 (r)) := by
  unfold fX12_sayPrefixed_240
  exact zpc_bu (w_fX12_sayPlain h) (fun σ2 hσ2 => zpc_some hσ2)
theorem w_fX12_sayPrefixed_219 {σ0 : zSt} {σ : zSt} {x2 : Int32} {s0 : Int32} (h : zKeM σ0 σ) : zpc (fX12_sayPrefixed_219 σ x2 s0) (fun r => zKeM σ0 (r)) := by
  unfold fX12_sayPrefixed_219
  exact zpc_ck (zpc_bs (zKeM.w0 h (by decide)) (fun σ3 hσ3 => zpc_if (fun _ => w_fX12_sayPrefixed_240 hσ3) (fun _ => zpc_bi (w_fX12_taken hσ3) (fun σ4 v5 hσ4 => zpc_bi (w_fX12_signed hσ4) (fun σ6 v7 hσ6 => zpc_bs (zKeM.w0 hσ6 (by decide)) (fun σ8 hσ8 => w_fX12_sayPrefixed_240 hσ8))))))
theorem w_fX12_sayPrefixed_218 {σ0 : zSt} {σ : zSt} {x2 : Int32} (h : zKeM σ0 σ) : zpc (fX12_sayPrefixed_218 σ x2) (fun r => zKeM σ0 (r)) := by
  unfold fX12_sayPrefixed_218
  exact w_fX12_sayPrefixed_219 h
theorem w_fX12_sayPrefixed_214 {σ0 : zSt} {σ : zSt} {x2 : Int32} (h : zKeM σ0 σ) : zpc (fX12_sayPrefixed_214 σ x2) (fun r => zKeM σ0 (r)) := by
  unfold fX12_sayPrefixed_214
  exact w_fX12_sayPrefixed_219 h
theorem w_fX12_sayPrefixed_201 {σ0 : zSt} {σ : zSt} {x2 : Int32} {x4 : Int32} {x5 : Int32} (h : zKeM σ0 σ) : zpc (fX12_sayPrefixed_201 σ x2 x4 x5) (fun r => zKeM σ0 (r)) := by
  unfold fX12_sayPrefixed_201
  exact zpc_if (fun _ => zpc_if (fun _ => w_fX12_sayPrefixed_214 h) (fun _ => w_fX12_sayPrefixed_218 h)) (fun _ => w_fX12_sayPrefixed_218 h)
theorem w_fX12_sayPrefixed_195 {σ0 : zSt} {σ : zSt} {x2 : Int32} {x4 : Int32} {x5 : Int32} (h : zKeM σ0 σ) : zpc (fX12_sayPrefixed_195 σ x2 x4 x5) (fun r => zKeM σ0 (r)) := by
  unfold fX12_sayPrefixed_195
  exact zpc_if (fun _ => w_fX12_sayPrefixed_201 h) (fun _ => w_fX12_sayPrefixed_214 h)
theorem w_fX12_sayPrefixed_176 {σ0 : zSt} {σ : zSt} {x2 : Int32} {x3 : Int32} {x4 : Int32} {x5 : Int32} (h : zKeM σ0 σ) : zpc (fX12_sayPrefixed_176 σ x2 x3 x4 x5) (fun r => zKeM σ0 (r)) := by
  unfold fX12_sayPrefixed_176
  exact zpc_if (fun _ => zpc_if (fun _ => w_fX12_sayPrefixed_195 h) (fun _ => zpc_if (fun _ => w_fX12_sayPrefixed_195 h) (fun _ => w_fX12_sayPrefixed_201 h))) (fun _ => w_fX12_sayPrefixed_201 h)
theorem w_fX12_sayPrefixed {σ0 : zSt} {σ : zSt} {x1 : Int32} (h : zKeM σ0 σ) : zpc (fX12_sayPrefixed σ x1) (fun r => zKeM σ0 (r)) := by
  unfold fX12_sayPrefixed
  exact zpc_bi (w_fX12_read h) (fun σ9 v10 hσ9 => zpc_if (fun _ => w_fX12_sayPrefixed_30 hσ9) (fun _ => zpc_if (fun _ => w_fX12_sayPrefixed_30 hσ9) (fun _ => zpc_if (fun _ => w_fX12_sayPrefixed_30 hσ9) (fun _ => zpc_bs (zKeM.w0 hσ9 (by decide)) (fun σ11 hσ11 => zpc_bs (zKeM.w0 hσ11 (by decide)) (fun σ12 hσ12 => zpc_bv (fun v13 _ => zpc_bv (fun v14 _ => zpc_bv (fun v15 _ => zpc_if (fun _ => zpc_bi (w_fX12_taken hσ12) (fun σ16 v17 hσ16 => zpc_bi (w_fX12_signed hσ16) (fun σ18 v19 hσ18 => zpc_bs (zKeM.w0 hσ18 (by decide)) (fun σ20 hσ20 => zpc_ck (zpc_bs (zKeM.w0 hσ20 (by decide)) (fun σ21 hσ21 => zpc_bi (w_fX12_taken hσ21) (fun σ22 v23 hσ22 => zpc_bu (w_fX12_sayTurn hσ22) (fun σ24 hσ24 => zpc_if (fun _ => w_fX12_sayPrefixed_133 hσ24) (fun _ => zpc_ck (zpc_if (fun _ => w_fX12_sayPrefixed_133 hσ24) (fun _ => zpc_bu (w_fX12_say hσ24) (fun σ25 hσ25 => zpc_ck (zpc_bu (w_fX12_sayR hσ25) (fun σ26 hσ26 => zpc_some hσ26)))))))))))))) (fun _ => zpc_if (fun _ => zpc_if (fun _ => w_fX12_sayPrefixed_176 hσ12) (fun _ => zpc_if (fun _ => w_fX12_sayPrefixed_176 hσ12) (fun _ => zpc_if (fun _ => w_fX12_sayPrefixed_214 hσ12) (fun _ => w_fX12_sayPrefixed_176 hσ12)))) (fun _ => w_fX12_sayPrefixed_176 hσ12)))))))))))
theorem w_fX12_sayOdd_155 {σ0 : zSt} {σ : zSt} (h : zKeM σ0 σ) : zpc (fX12_sayOdd_155 σ) (fun r => zKeM σ0 (r)) := by
  unfold fX12_sayOdd_155
  exact zpc_some h
theorem w_fX12_sayOdd_35 {σ0 : zSt} {σ : zSt} {s0 : Nat} (h : zKeM σ0 σ) : zpc (fX12_sayOdd_35 σ s0) (fun r => zKeM σ0 (r)) := by
  unfold fX12_sayOdd_35
  exact zpc_bu (w_fX12_say h) (fun σ1 hσ1 => w_fX12_sayOdd_155 hσ1)
theorem w_fX12_sayOdd_77 {σ0 : zSt} {σ : zSt} {s0 : Nat} (h : zKeM σ0 σ) : zpc (fX12_sayOdd_77 σ s0) (fun r => zKeM σ0 (r)) := by
  unfold fX12_sayOdd_77
  exact zpc_bu (w_fX12_say h) (fun σ2 hσ2 => w_fX12_sayOdd_155 hσ2)
theorem w_fX12_sayOdd_152 {σ0 : zSt} {σ : zSt} {s0 : Nat} (h : zKeM σ0 σ) : zpc (fX12_sayOdd_152 σ s0) (fun r => zKeM σ0 (r)) := by
  unfold fX12_sayOdd_152
  exact zpc_bu (w_fX12_say h) (fun σ3 hσ3 => w_fX12_sayOdd_155 hσ3)
theorem w_fX12_sayOdd {σ0 : zSt} {σ : zSt} {x1 : Int32} {x2 : Int32} (h : zKeM σ0 σ) : zpc (fX12_sayOdd σ x1 x2) (fun r => zKeM σ0 (r)) := by
  unfold fX12_sayOdd
  exact zpc_if (fun _ => zpc_bu (w_fX12_say h) (fun σ4 hσ4 => w_fX12_sayOdd_155 hσ4)) (fun _ => zpc_if (fun _ => zpc_if (fun _ => w_fX12_sayOdd_35 h) (fun _ => w_fX12_sayOdd_35 h)) (fun _ => zpc_if (fun _ => zpc_ck (zpc_if (fun _ => zpc_ck (zpc_if (fun _ => w_fX12_sayOdd_77 h) (fun _ => w_fX12_sayOdd_77 h))) (fun _ => w_fX12_sayOdd_77 h))) (fun _ => zpc_if (fun _ => w_fX12_sayOdd_152 h) (fun _ => zpc_if (fun _ => w_fX12_sayOdd_152 h) (fun _ => zpc_if (fun _ => w_fX12_sayOdd_152 h) (fun _ => zpc_if (fun _ => w_fX12_sayOdd_152 h) (fun _ => zpc_if (fun _ => w_fX12_sayOdd_152 h) (fun _ => zpc_if (fun _ => w_fX12_sayOdd_152 h) (fun _ => w_fX12_sayOdd_152 h)))))))))
theorem w_fX12_sayMore_325 {σ0 : zSt} {σ : zSt} (h : zKeM σ0 σ) : zpc (fX12_sayMore_325 σ) (fun r => zKeM σ0 (r)) := by
  unfold fX12_sayMore_325
  exact zpc_some h
theorem w_fX12_sayMore_164 {σ0 : zSt} {σ : zSt} (h : zKeM σ0 σ) : zpc (fX12_sayMore_164 σ) (fun r => zKeM σ0 (r)) := by
  unfold fX12_sayMore_164
  exact zpc_bu (w_fX12_say h) (fun σ1 hσ1 => w_fX12_sayMore_325 hσ1)
theorem w_fX12_sayMore_231 {σ0 : zSt} {σ : zSt} {x2 : Int32} {s0 : Nat} (h : zKeM σ0 σ) : zpc (fX12_sayMore_231 σ x2 s0) (fun r => zKeM σ0 (r)) := by
  unfold fX12_sayMore_231
  exact zpc_bu (w_fX12_say h) (fun σ2 hσ2 => zpc_bu (w_fX12_sayRp hσ2) (fun σ3 hσ3 => w_fX12_sayMore_325 hσ3))
theorem w_fX12_sayMore_316 {σ0 : zSt} {σ : zSt} (h : zKeM σ0 σ) : zpc (fX12_sayMore_316 σ) (fun r => zKeM σ0 (r)) := by
  unfold fX12_sayMore_316
  exact w_fX12_sayMore_325 h
theorem w_fX12_sayMore_286 {σ0 : zSt} {σ : zSt} {x2 : Int32} {x5 : Int32} (h : zKeM σ0 σ) : zpc (fX12_sayMore_286 σ x2 x5) (fun r => zKeM σ0 (r)) := by
  unfold fX12_sayMore_286
  exact zpc_bu (w_fX12_say h) (fun σ4 hσ4 => zpc_ck (zpc_if (fun _ => zpc_bu (w_fX12_sayRp hσ4) (fun σ6 hσ6 => w_fX12_sayMore_316 hσ6)) (fun _ => zpc_bu (w_fX12_sayPlaced hσ4) (fun σ5 hσ5 => w_fX12_sayMore_316 hσ5))))
theorem w_fX12_sayMore_119 {σ0 : zSt} {σ : zSt} {x2 : Int32} {x3 : Int32} {x4 : Int32} (h : zKeM σ0 σ) : zpc (fX12_sayMore_119 σ x2 x3 x4) (fun r => zKeM σ0 (r)) := by
  unfold fX12_sayMore_119
  exact zpc_if (fun _ => zpc_if (fun _ => zpc_bu (w_fX12_say h) (fun σ16 hσ16 => zpc_if (fun _ => w_fX12_sayMore_164 hσ16) (fun _ => zpc_bu (w_fX12_sayR hσ16) (fun σ17 hσ17 => zpc_bu (w_fX12_say hσ17) (fun σ18 hσ18 => w_fX12_sayMore_164 hσ18))))) (fun _ => zpc_if (fun _ => zpc_bu (w_fX12_say h) (fun σ13 hσ13 => zpc_if (fun _ => zpc_bu (w_fX12_say hσ13) (fun σ15 hσ15 => w_fX12_sayMore_325 hσ15)) (fun _ => zpc_bu (w_fX12_sayR hσ13) (fun σ14 hσ14 => w_fX12_sayMore_325 hσ14)))) (fun _ => zpc_if (fun _ => zpc_ck (zpc_if (fun _ => w_fX12_sayMore_231 h) (fun _ => w_fX12_sayMore_231 h))) (fun _ => zpc_if (fun _ => zpc_bu (w_fX12_say h) (fun σ8 hσ8 => zpc_bi (w_fX12_takenWord hσ8) (fun σ9 v10 hσ9 => zpc_ck (zpc_if (fun _ => zpc_bu (w_fX12_sayPlaced hσ9) (fun σ12 hσ12 => w_fX12_sayMore_286 hσ12)) (fun _ => zpc_bu (w_fX12_sayRp hσ9) (fun σ11 hσ11 => w_fX12_sayMore_286 hσ11)))))) (fun _ => zpc_bu (w_fX12_sayOdd h) (fun σ7 hσ7 => w_fX12_sayMore_325 hσ7)))))) (fun _ => zpc_bu (w_fX12_say h) (fun σ19 hσ19 => w_fX12_sayMore_325 hσ19))
theorem w_fX12_sayMore_101 {σ0 : zSt} {σ : zSt} {x2 : Int32} {s0 : Nat} (h : zKeM σ0 σ) : zpc (fX12_sayMore_101 σ x2 s0) (fun r => zKeM σ0 (r)) := by
  unfold fX12_sayMore_101
  exact zpc_bu (w_fX12_say h) (fun σ20 hσ20 => zpc_if (fun _ => w_fX12_sayMore_325 hσ20) (fun _ => zpc_bu (w_fX12_say hσ20) (fun σ21 hσ21 => w_fX12_sayMore_325 hσ21)))
theorem w_fX12_sayMore_82 {σ0 : zSt} {σ : zSt} {x2 : Int32} {s0 : Nat} (h : zKeM σ0 σ) : zpc (fX12_sayMore_82 σ x2 s0) (fun r => zKeM σ0 (r)) := by
  unfold fX12_sayMore_82
  exact zpc_bu (w_fX12_say h) (fun σ22 hσ22 => zpc_ck (zpc_if (fun _ => w_fX12_sayMore_101 hσ22) (fun _ => w_fX12_sayMore_101 hσ22)))
theorem w_fX12_sayMore {σ0 : zSt} {σ : zSt} {x1 : Int32} (h : zKeM σ0 σ) : zpc (fX12_sayMore σ x1) (fun r => zKeM σ0 (r)) := by
  unfold fX12_sayMore
  exact zpc_bv (fun v23 _ => zpc_bv (fun v24 _ => zpc_bv (fun v25 _ => zpc_if (fun _ => zpc_if (fun _ => w_fX12_sayMore_119 h) (fun _ => zpc_if (fun _ => w_fX12_sayMore_119 h) (fun _ => zpc_if (fun _ => w_fX12_sayMore_82 h) (fun _ => zpc_if (fun _ => w_fX12_sayMore_82 h) (fun _ => zpc_if (fun _ => w_fX12_sayMore_82 h) (fun _ => zpc_if (fun _ => w_fX12_sayMore_82 h) (fun _ => w_fX12_sayMore_82 h))))))) (fun _ => w_fX12_sayMore_119 h))))
theorem w_fX12_tell_112 {σ0 : zSt} {σ : zSt} {x2 : Int32} (h : zKeM σ0 σ) : zpc (fX12_tell_112 σ x2) (fun r => zKeM σ0 (r.1)) := by
  unfold fX12_tell_112
  exact zpc_some h
theorem w_fX12_tell_65 {σ0 : zSt} {σ : zSt} {x2 : Int32} {s0 : Int32} (h : zKeM σ0 σ) : zpc (fX12_tell_65 σ x2 s0) (fun r => zKeM σ0 (r.1)) := by
  unfold fX12_tell_65
  exact zpc_bu (w_fX12_sayPrefixed h) (fun σ1 hσ1 => w_fX12_tell_112 hσ1)
theorem w_fX12_tell_52 {σ0 : zSt} {σ : zSt} {x2 : Int32} {x3 : Int32} (h : zKeM σ0 σ) : zpc (fX12_tell_52 σ x2 x3) (fun r => zKeM σ0 (r.1)) := by
  unfold fX12_tell_52
  exact zpc_if (fun _ => w_fX12_tell_65 h) (fun _ => w_fX12_tell_65 h)
theorem w_fX12_tell {σ0 : zSt} {σ : zSt} {x1 : Int32} (h : zKeM σ0 σ) : zpc (fX12_tell σ x1) (fun r => zKeM σ0 (r.1)) := by
  unfold fX12_tell
  exact zpc_bs (zKeM.w0 h (by decide)) (fun σ2 hσ2 => zpc_bs (zKeM.w0 hσ2 (by decide)) (fun σ3 hσ3 => zpc_bs (zKeM.w0 hσ3 (by decide)) (fun σ4 hσ4 => zpc_bs (zKeM.w0 hσ4 (by decide)) (fun σ5 hσ5 => zpc_ck (zpc_bs (zKeM.w0 hσ5 (by decide)) (fun σ6 hσ6 => zpc_bv (fun v7 _ => zpc_bi (w_fX12_taken hσ6) (fun σ8 v9 hσ8 => zpc_if (fun _ => w_fX12_tell_52 hσ8) (fun _ => zpc_if (fun _ => w_fX12_tell_52 hσ8) (fun _ => zpc_if (fun _ => zpc_bi (w_fX12_taken hσ8) (fun σ14 v15 hσ14 => zpc_bu (w_fX12_sayTurn hσ14) (fun σ16 hσ16 => w_fX12_tell_112 hσ16))) (fun _ => zpc_if (fun _ => zpc_bi (w_fX12_taken hσ8) (fun σ11 v12 hσ11 => zpc_bu (w_fX12_sayMore hσ11) (fun σ13 hσ13 => w_fX12_tell_112 hσ13))) (fun _ => zpc_bu (w_fX12_sayPlain hσ8) (fun σ10 hσ10 => w_fX12_tell_112 hσ10)))))))))))))
theorem w_fX12_text_70 {σ0 : zSt} {k37 : zSt → Int32 → Int64 → Int32 → Option (zSt × Int64)} (hk37 : ∀ (y0 : zSt) (y1 : Int32) (y2 : Int64) (y3 : Int32), zKeM σ0 y0 → zpc (k37 y0 y1 y2 y3) (fun r => zKeM σ0 (r.1))) {σ : zSt} {x1 : Int32} {x4 : Int32} {s0 : Int32} {s1 : Int64} (h : zKeM σ0 σ) : zpc (fX12_text_70 k37 σ x1 x4 s0 s1) (fun r => zKeM σ0 (r.1)) := by
  unfold fX12_text_70
  exact zpc_bv (fun v1 _ => zpc_bv (fun v2 _ => hk37 _ _ _ _ h))
theorem w_fX12_text_37_body {σ0 : zSt} {k37 : zSt → Int32 → Int64 → Int32 → Option (zSt × Int64)} (hk37 : ∀ (y0 : zSt) (y1 : Int32) (y2 : Int64) (y3 : Int32), zKeM σ0 y0 → zpc (k37 y0 y1 y2 y3) (fun r => zKeM σ0 (r.1))) {σ : zSt} {x1 : Int32} {x2 : Int64} {x4 : Int32} (h : zKeM σ0 σ) : zpc (fX12_text_37_body k37 σ x1 x2 x4) (fun r => zKeM σ0 (r.1)) := by
  unfold fX12_text_37_body
  exact zpc_if (fun _ => zpc_some h) (fun _ => zpc_if (fun _ => w_fX12_text_70 hk37 h) (fun _ => zpc_ck (w_fX12_text_70 hk37 h)))
theorem w_fX12_text_37 {σ0 : zSt} : ∀ (n : Nat) (y0 : zSt) (y1 : Int32) (y2 : Int64) (y3 : Int32), zKeM σ0 y0 → zpc (fX12_text_37 n y0 y1 y2 y3) (fun r => zKeM σ0 (r.1)) := by
  intro n
  induction n with
  | zero => intro y0 y1 y2 y3 h; exact zpc_none
  | succ n ih => intro y0 y1 y2 y3 h; exact w_fX12_text_37_body ih h
theorem w_fX12_text_22 {σ0 : zSt} {σ : zSt} {x1 : Int32} {s0 : Int32} (h : zKeM σ0 σ) : zpc (fX12_text_22 σ x1 s0) (fun r => zKeM σ0 (r.1)) := by
  unfold fX12_text_22
  exact zpc_bi (w_fX12_fails h) (fun σ3 v4 hσ3 => zpc_if (fun _ => w_fX12_text_37 _ _ _ _ _ hσ3) (fun _ => zpc_some hσ3))
theorem w_fX12_text {σ0 : zSt} {σ : zSt} {x1 : Int32} (h : zKeM σ0 σ) : zpc (fX12_text σ x1) (fun r => zKeM σ0 (r.1)) := by
  unfold fX12_text
  exact zpc_bi (w_fX12_within h) (fun σ5 v6 hσ5 => zpc_if (fun _ => w_fX12_text_22 hσ5) (fun _ => w_fX12_text_22 hσ5))
end ZJN2
section ZJN3
/-! bytes -/
theorem z_255 {i : Nat} (h : 8 ≤ i) : (255#32).getLsbD i = false := by
  by_cases hi : i < 32
  · have k : ∀ j : Fin 32, 8 ≤ j.val → (255#32).getLsbD j.val = false := by decide
    exact k ⟨i, hi⟩ h
  · exact BitVec.getLsbD_of_ge _ _ (by omega)
theorem z_and255 {x y : Int32} (h : ∀ i, i < 8 → x.toBitVec.getLsbD i = y.toBitVec.getLsbD i) : x &&& 255 = y &&& 255 := by
  refine Int32.toBitVec_inj.1 (BitVec.eq_of_getLsbD_eq (fun i hi => ?_))
  rw [Int32.toBitVec_and, Int32.toBitVec_and, BitVec.getLsbD_and, BitVec.getLsbD_and]
  by_cases q : i < 8
  · rw [h i q]
  · rw [show (255 : Int32).toBitVec = 255#32 from rfl, z_255 (by omega), Bool.and_false, Bool.and_false]
theorem z_nar {x : Int32} : vp_nar .byte x &&& 255 = x &&& 255 := by
  refine z_and255 (fun i hi => ?_)
  have e : (vp_nar .byte x).toBitVec = (x.toBitVec.signExtend 8).signExtend 32 := rfl
  rw [e, BitVec.getLsbD_signExtend, if_pos hi, decide_eq_true (show i < 32 by omega), Bool.true_and, BitVec.getLsbD_signExtend, if_pos (show i < 32 by omega), decide_eq_true hi, Bool.true_and]
theorem z_i8 {x : Int32} : x.toInt8.toInt32 &&& 255 = x &&& 255 := z_nar (x := x)
theorem z_sh1 : ∀ i : Fin 8, (((8 * Int32.ofNat i.val).toInt64 &&& 63).toBitVec.smod 64).toNat = 8 * i.val := by decide +kernel
theorem z_sh2 : ∀ i : Fin 8, (UInt64.mod ((8 * Int32.ofNat i.val).toInt64.toUInt64 &&& Int64.toUInt64 63) 64).toBitVec.toNat = 8 * i.val := by decide +kernel
theorem z_shb {s : Int64} {i : Nat} (hi : i < 8) : (zlshr s (8 * Int32.ofNat i)).toInt32 &&& 255 = (zlushr s (8 * Int32.ofNat i)).toInt32 &&& 255 := by
  refine z_and255 (fun j hj => ?_)
  have s1 : (((8 * Int32.ofNat i).toInt64 &&& 63).toBitVec.smod 64).toNat = 8 * i := z_sh1 ⟨i, hi⟩
  have s2 : (UInt64.mod ((8 * Int32.ofNat i).toInt64.toUInt64 &&& Int64.toUInt64 63) 64).toBitVec.toNat = 8 * i := z_sh2 ⟨i, hi⟩
  have e1 : (zlshr s (8 * Int32.ofNat i)).toInt32.toBitVec = (s.toBitVec.sshiftRight (((8 * Int32.ofNat i).toInt64 &&& 63).toBitVec.smod 64).toNat).signExtend 32 := rfl
  have e2 : (zlushr s (8 * Int32.ofNat i)).toInt32.toBitVec = (s.toBitVec >>> (UInt64.mod ((8 * Int32.ofNat i).toInt64.toUInt64 &&& Int64.toUInt64 63) 64).toBitVec.toNat).signExtend 32 := rfl
  rw [e1, e2, s1, s2]
  simp only [BitVec.getLsbD_signExtend, BitVec.getLsbD_sshiftRight, BitVec.getLsbD_ushiftRight, if_pos (show j < 64 by omega), if_pos (show 8 * i + j < 64 by omega), decide_eq_false (show ¬ 64 ≤ j by omega), Bool.not_false, Bool.true_and]
theorem z_x24 : ∀ i : Fin 24, zrem (Int32.ofNat i.val) 8 = Int32.ofNat (i.val % 8) ∧ Int32.ofNat i.val &&& 7 = Int32.ofNat (i.val % 8) := by decide +kernel
theorem z_ofN {x : Int32} {i : Nat} (h : x.toInt = i) : x = Int32.ofNat i := by
  have l := Int32.toInt_lt x
  exact Int32.toInt_inj.mp (by rw [Int32.toInt_ofNat_of_lt (by omega), h])
/-- the byte that feed lays, on both sides -/
theorem z_feedb {s : Int64} {x : Int32} (h : zr 0 23 x) : ((zlushr s (8 * (x &&& 7))).toInt32) &&& 255 = vp_nar .byte (((zlshr s (8 * (zrem x 8))).toInt32).toInt8.toInt32) &&& 255 := by
  obtain ⟨h1, h2⟩ := h
  obtain ⟨i, hi⟩ : ∃ i : Nat, x.toInt = i := ⟨x.toInt.toNat, by omega⟩
  have e := z_ofN hi
  have k1 : zrem (Int32.ofNat i) 8 = Int32.ofNat (i % 8) := (z_x24 ⟨i, by omega⟩).1
  have k2 : Int32.ofNat i &&& 7 = Int32.ofNat (i % 8) := (z_x24 ⟨i, by omega⟩).2
  rw [z_nar, z_i8, e, k1, k2]
  exact (z_shb (by omega)).symm
theorem z_patchb {s : Int64} {x : Int32} (h : zr 0 7 x) : ((zlushr s (8 * x)).toInt32) &&& 255 = vp_nar .byte (((zlshr s (8 * x)).toInt32).toInt8.toInt32) &&& 255 := by
  obtain ⟨h1, h2⟩ := h
  obtain ⟨i, hi⟩ : ∃ i : Nat, x.toInt = i := ⟨x.toInt.toNat, by omega⟩
  have e := z_ofN hi
  rw [z_nar, z_i8, e]
  exact (z_shb (by omega)).symm
/-! two computations side by side -/
noncomputable def zp2 {α β : Type} (o : Option α) (p : Option β) (Q : α → β → Prop) : Prop := ∀ a b, o = some a → p = some b → Q a b
theorem zp2_nl {α β : Type} {p : Option β} {Q : α → β → Prop} : zp2 (none : Option α) p Q := fun a b e _ => by cases e
theorem zp2_nr {α β : Type} {o : Option α} {Q : α → β → Prop} : zp2 o (none : Option β) Q := fun a b _ e => by cases e
theorem zp2_some {α β : Type} {a : α} {b : β} {Q : α → β → Prop} (h : Q a b) : zp2 (some a) (some b) Q := fun x y e f => by cases e; cases f; exact h
theorem zp2_ckl {α β : Type} {c : Bool} {o : Option α} {p : Option β} {Q : α → β → Prop} (h : zp2 o p Q) : zp2 (zck c o) p Q := by
  cases c
  · exact zp2_nl
  · exact h
theorem zp2_ckr {α β : Type} {c : Bool} {o : Option α} {p : Option β} {Q : α → β → Prop} (h : zp2 o p Q) : zp2 o (zck c p) Q := by
  cases c
  · exact zp2_nr
  · exact h
theorem zp2_ifl {α β : Type} {c : Prop} {d : Decidable c} {x y : Option α} {p : Option β} {Q : α → β → Prop} (h1 : c → zp2 x p Q) (h2 : ¬ c → zp2 y p Q) : zp2 (@ite _ c d x y) p Q := by
  by_cases q : c
  · rw [if_pos q]; exact h1 q
  · rw [if_neg q]; exact h2 q
theorem zp2_ifr {α β : Type} {c : Prop} {d : Decidable c} {o : Option α} {x y : Option β} {Q : α → β → Prop} (h1 : c → zp2 o x Q) (h2 : ¬ c → zp2 o y Q) : zp2 o (@ite _ c d x y) Q := by
  by_cases q : c
  · rw [if_pos q]; exact h1 q
  · rw [if_neg q]; exact h2 q
/-- both ask the same -/
theorem zp2_if {α β : Type} {c : Prop} {d d' : Decidable c} {x y : Option α} {x' y' : Option β} {Q : α → β → Prop} (h1 : c → zp2 x x' Q) (h2 : ¬ c → zp2 y y' Q) : zp2 (@ite _ c d x y) (@ite _ c d' x' y') Q := zp2_ifl (fun q => zp2_ifr (fun _ => h1 q) (fun r => absurd q r)) (fun q => zp2_ifr (fun r => absurd r q) (fun _ => h2 q))
theorem zp2_bvl {α β γ : Type} {x : γ} {f : γ → Option α} {p : Option β} {Q : α → β → Prop} (h : ∀ y, y = x → zp2 (f y) p Q) : zp2 (zbv x f) p Q := h x rfl
theorem zp2_bvr {α β γ : Type} {x : γ} {o : Option α} {f : γ → Option β} {Q : α → β → Prop} (h : ∀ y, y = x → zp2 o (f y) Q) : zp2 o (zbv x f) Q := h x rfl
theorem zp2_bul {α β : Type} {o : Option zSt} {f : zSt → Option α} {p : Option β} {P : zSt → Prop} {Q : α → β → Prop} (h : zpc o P) (k : ∀ σ, P σ → zp2 (f σ) p Q) : zp2 (zbu o f) p Q := by
  cases o with
  | none => exact zp2_nl
  | some a => exact k a (h a rfl)
theorem zp2_of {α β : Type} {o : Option α} {p : Option β} {P : α → Prop} {P' : β → Prop} {Q : α → β → Prop} (h : zpc o P) (h' : zpc p P') (k : ∀ a b, P a → P' b → Q a b) : zp2 o p Q := fun a b e f => k a b (h a e) (h' b f)
/-! tape and cartridge of both sides -/
noncomputable def zSm (b : Nat → Int32) : Nat → Nat → Int32 → Int32
  | 0, _, a => a
  | n + 1, i, a => zSm b n (i + 1) (a + b i)
/-- the sum over a cartridge's bytes: size, header, bytes -/
noncomputable def zSum (z h : Int32) (b : Nat → Int32) : Int32 := (if 13 < b (h.toNatClampNeg + 15) &&& 15 then zSm b (z.toNatClampNeg - 32768) 32768 (zSm b h.toNatClampNeg 0 0) else if 3 ≤ b (h.toNatClampNeg + 15) &&& 15 then zSm b h.toNatClampNeg 0 0 else zSm b (z.toNatClampNeg - 32768) 32768 (zSm b h.toNatClampNeg 0 0)) &&& 65535
noncomputable def zCart (σ μ : zSt) : Prop := σ.1 1 4 = μ.1 0 5 ∧ σ.1 1 5 = μ.1 0 6 ∧ σ.1 1 6 = μ.1 0 7 ∧ σ.1 1 7 = μ.1 0 8 ∧ (∀ j : Nat, (j : Int) < (μ.1 0 5).toInt → σ.1 (ztp (σ.1 1 1)) ((σ.1 1 3).toNatClampNeg + j) = μ.1 2 j &&& 255) ∧ (0 ≤ (μ.1 0 8).toInt → (μ.1 0 8).toInt + 16 ≤ (μ.1 0 5).toInt ∧ μ.1 0 9 = zSum (μ.1 0 5) (μ.1 0 8) (fun j => μ.1 2 j &&& 255))
theorem zCart.keep {σ σ' μ μ' : zSt} (h : zCart σ μ) (a : ∀ j, j ∈ [1, 3, 4, 5, 6, 7] → σ'.1 1 j = σ.1 1 j) (a2 : σ'.1 (ztp (σ.1 1 1)) = σ.1 (ztp (σ.1 1 1))) (b : ∀ j, j ∈ [5, 6, 7, 8, 9] → μ'.1 0 j = μ.1 0 j) (b2 : μ'.1 2 = μ.1 2) : zCart σ' μ' := by
  unfold zCart at h ⊢
  rw [a 1 (by decide), a 3 (by decide), a 4 (by decide), a 5 (by decide), a 6 (by decide), a 7 (by decide), a2, b 5 (by decide), b 6 (by decide), b 7 (by decide), b 8 (by decide), b 9 (by decide), b2]
  exact h
noncomputable def zR6L (L : Int) (σ μ : zSt) : Prop := (∀ j : Nat, (j : Int) < L → σ.1 (ztp (σ.1 1 0)) j = μ.1 1 j &&& 255) ∧ ¬ ztp (σ.1 1 0) = ztp (σ.1 1 1) ∧ zCart σ μ
noncomputable def zR6 (σ μ : zSt) : Prop := σ.1 1 2 = μ.1 0 2 ∧ zR6L (μ.1 0 2).toInt σ μ
theorem z_tp13 (x : Int32) : ztp x = 13 ∨ ztp x = 14 := by
  unfold ztp
  split
  · exact Or.inl rfl
  · exact Or.inr rfl
theorem zKeC.row {σ σ' : zSt} (a : zKeC σ σ') (w : Int32) : σ'.1 (ztp w) = σ.1 (ztp w) := by
  rcases z_tp13 w with e | e <;> rw [e]
  · exact a.2.1
  · exact a.2.2
theorem zR6.keep {σ σ' μ μ' : zSt} (h : zR6 σ μ) (a : zKeC σ σ') (b : zKeM μ μ') : zR6 σ' μ' := by
  obtain ⟨h1, h2, h3, h4⟩ := h
  have c : zCart σ' μ' := h4.keep (fun j _ => by rw [a.1]) (a.row _) (fun j hj => b.2.2 j (by revert hj; simp only [List.mem_cons, List.not_mem_nil, or_false]; omega)) b.2.1
  unfold zR6 zR6L
  rw [a.1, a.row, b.2.2 2 (by decide), b.1]
  exact ⟨h1, h2, h3, c⟩
/-- one byte of the tape on both sides -/
theorem zR6L.set {L L' : Int} {σ μ : zSt} (h : zR6L L σ μ) {i : Nat} {x y : Int32} (hx : x = y &&& 255) (hL : ∀ j : Nat, (j : Int) < L' → ¬ j = i → (j : Int) < L) : zR6L L' (zsi σ (ztp (σ.1 1 0)) i x) (zsi μ 1 i y) := by
  obtain ⟨h1, h2, h3⟩ := h
  have n1 : ¬ 1 = ztp (σ.1 1 0) := z_tp1 _
  have r1 : (zsi σ (ztp (σ.1 1 0)) i x).1 1 = σ.1 1 := zsi_ne n1
  refine ⟨fun j hj => ?_, by rw [r1]; exact h2, h3.keep (fun j _ => by rw [r1]) (zsi_ne (fun r => h2 r.symm)) (fun j _ => by rw [zsi_ne (by decide)]) (zsi_ne (by decide))⟩
  rw [r1]
  by_cases q : j = i
  · subst q
    rw [zsi_ej, zsi_ej]
    exact hx
  · rw [zsi_nj q, zsi_nj q]
    exact h1 j (hL j hj q)
theorem zR6L.lenC {L : Int} {σ μ : zSt} (h : zR6L L σ μ) {v : Int32} : zR6L L (zsi σ 1 2 v) μ := by
  obtain ⟨h1, h2, h3⟩ := h
  have k : ∀ j, ¬ j = 2 → (zsi σ 1 2 v).1 1 j = σ.1 1 j := fun j q => zsi_nj q
  have r : ∀ w, (zsi σ 1 2 v).1 (ztp w) = σ.1 (ztp w) := fun w => zsi_ne (fun e => z_tp1 w e.symm)
  refine ⟨fun j hj => ?_, by rw [k 0 (by decide), k 1 (by decide)]; exact h2, h3.keep (fun j hj => k j (fun e => by subst e; revert hj; decide)) (r _) (fun j _ => rfl) rfl⟩
  rw [k 0 (by decide), r]
  exact h1 j hj
theorem zR6L.wM {L : Int} {σ μ : zSt} (h : zR6L L σ μ) {j : Nat} {v : Int32} (c : [5, 6, 7, 8, 9].contains j = false) : zR6L L σ (zsi μ 0 j v) := by
  obtain ⟨h1, h2, h3⟩ := h
  refine ⟨fun i hi => ?_, h2, h3.keep (fun _ _ => rfl) rfl (fun i hi => ?_) (zsi_ne (by decide))⟩
  · rw [zsi_ne (by decide)]
    exact h1 i hi
  · exact zsi_nj (fun e => by rw [← e, List.contains_iff_mem.mpr hi] at c; exact absurd c (by decide))
/-! feed -/
theorem p_add {σ : zSt} {x : Int32} (hr : (zgi σ 1 2).toInt ≤ 262655) : zpc (fX2_addToTape σ x) (fun r => r = zsi (zsi σ (ztp (σ.1 1 0)) (zgi σ 1 2).toNatClampNeg x) 1 2 (zgi σ 1 2 + 1)) := by
  unfold fX2_addToTape fX2_addToTape_29
  have c2 : (262656 : Int32).toInt = 262656 := rfl
  refine zpc_if (fun q => ?_) (fun q => zpc_ck (zpc_bv (fun σ1 e1 => zpc_bv (fun σ2 e2 => zpc_some ?_))))
  · have q1 := Int32.le_iff_toInt_le.mp q
    exfalso
    omega
  · have a2 : zgi σ1 1 2 = zgi σ 1 2 := by
      subst e1
      show (zsi σ (ztp _) _ _).1 1 2 = σ.1 1 2
      rw [zsi_off (fun r => z_tp1 _ r.1)]
    rw [e2, a2, e1]
    rfl
theorem z_clamp {x : Int32} (h : 0 ≤ x.toInt) : (x.toNatClampNeg : Int) = x.toInt := by
  have : x.toNatClampNeg = x.toInt.toNat := rfl
  omega
theorem z2_feed_48 {x1 : Int32} {x2 x4 x6 : Int64} (hx : zr 1 24 x1) : ∀ (n m : Nat) (σ μ : zSt) (x8 : Int32), zR6 σ μ → zr 0 24 x8 → x8.toInt ≤ x1.toInt → 0 ≤ (μ.1 0 2).toInt → (μ.1 0 2).toInt + (x1.toInt - x8.toInt) ≤ 262656 → zp2 (fX11_feed_48 n σ x1 x2 x4 x6 x8) (fX12_feed_54 m μ x1 x2 x4 x6 x8) (fun r r' => zR6 (zRis r) r'.1) := by
  intro n
  induction n with
  | zero => intro m σ μ x8 _ _ _ _ _; exact zp2_nl
  | succ n ih =>
    intro m σ μ x8 hR h8 hle h0 hb
    cases m with
    | zero => exact zp2_nr
    | succ m =>
      show zp2 (fX11_feed_48_body (fX11_feed_48 n) σ x1 x2 x4 x6 x8) (fX12_feed_54_body (fX12_feed_54 m) μ x1 x2 x4 x6 x8) _
      unfold fX11_feed_48_body fX12_feed_54_body
      have b8 := h8.1
      have bx := hx.2
      refine zp2_if (fun q => zp2_some hR) (fun q => ?_)
      have q1 := Int32.lt_iff_toInt_lt.mp (z_nle q)
      have f : ∀ s0, zp2 (fX11_feed_79 (fX11_feed_48 n) σ x1 x2 x4 x6 x8 s0) (fX12_feed_93 (fX12_feed_54 m) μ x1 x2 x4 x6 x8 s0 (zgi μ 0 2)) (fun r r' => zR6 (zRis r) r'.1) := fun s0 => by
        unfold fX11_feed_79 fX12_feed_93
        have e12 : zgi σ 1 2 = zgi μ 0 2 := hR.1
        have hl : (zgi μ 0 2).toInt ≤ 262655 := by show (μ.1 0 2).toInt ≤ 262655; omega
        refine zp2_bul (p_add (by rw [e12]; exact hl)) (fun σ1 s1 => zp2_bvl (fun v2 e2 => zp2_ckr (zp2_ckr (zp2_bvr (fun μ1 m1 => zp2_bvr (fun μ2 m2 => zp2_bvr (fun v3 e3 => ?_)))))))
        have a2 : zgi μ1 0 2 = zgi μ 0 2 := by
          subst m1
          show (zsi μ 1 _ _).1 0 2 = μ.1 0 2
          rw [zsi_off (by omega)]
        have c1 : (1 : Int32).toInt = 1 := rfl
        have r1 : zr 1 1 (1 : Int32) := zr_c (by decide)
        have t3 : (zgi μ 0 2 + 1).toInt = (zgi μ 0 2).toInt + (1 : Int32).toInt := z_tadd (a := 0) (b := 262655) ⟨h0, hl⟩ r1 (by decide)
        have l2 : (μ2.1 0 2) = zgi μ 0 2 + 1 := by rw [m2, a2, zsi_ej]
        have cl : ((zgi μ 0 2).toNatClampNeg : Int) = (zgi μ 0 2).toInt := z_clamp h0
        have g2 : (zgi μ 0 2).toInt = (μ.1 0 2).toInt := rfl
        have R1 : zR6L ((μ.1 0 2).toInt + 1) (zsi σ (ztp (σ.1 1 0)) (zgi μ 0 2).toNatClampNeg ((((zlushr s0 (8 * (x8 &&& 7))).toInt32) &&& 255))) μ1 := by
          rw [m1]
          exact hR.2.set (z_feedb ⟨b8, by omega⟩) (fun j hj nj => by omega)
        have R2 : zR6 σ1 μ2 := by
          refine ⟨?_, ?_⟩
          · rw [s1, zsi_ej, l2, e12]
          · rw [l2, t3, c1, g2, s1, e12, m2]
            exact (R1.lenC).wM (by decide)
        have t8 : (x8 + 1).toInt = x8.toInt + (1 : Int32).toInt := z_tadd h8 r1 (by decide)
        have t : v3.toInt = x8.toInt + 1 := by rw [e3, t8, c1]
        have e23 : v2 = v3 := by rw [e2, e3]
        rw [e23]
        have l3 : (μ2.1 0 2).toInt = (μ.1 0 2).toInt + 1 := by rw [l2, t3, c1, g2]
        exact ih m σ1 μ2 v3 R2 ⟨by omega, by omega⟩ (by omega) (by omega) (by omega)
      exact zp2_if (fun _ => zp2_if (fun _ => f _) (fun _ => f _)) (fun _ => f _)
end ZJN3
section ZJN4
theorem zp2_within {α β : Type} {o : Option α} {σ : zSt} {a l h : Int64} {f : zSt → Int32 → Option β} {Q : α → β → Prop} (k1 : l.toInt ≤ a.toInt → a.toInt ≤ h.toInt → zp2 o (f σ 1) Q) (k0 : (a.toInt < l.toInt ∨ h.toInt < a.toInt) → zp2 o (f σ 0) Q) : zp2 o (zbi (fX12_within σ a l h) f) Q := by
  unfold fX12_within
  by_cases q1 : lg_cmp a l < 0
  · rw [if_pos q1]; exact k0 (Or.inl (z_cmp_lt.mp q1))
  · rw [if_neg q1]
    by_cases q2 : 0 < lg_cmp a h
    · rw [if_pos q2]; exact k0 (Or.inr (z_cmp_gt.mp q2))
    · rw [if_neg q2]
      exact k1 (Int.not_lt.mp (fun r => q1 (z_cmp_lt.mpr r))) (Int.not_lt.mp (fun r => q2 (z_cmp_gt.mpr r)))
theorem zp2_fails0 {α β : Type} {o : Option α} {σ : zSt} {c : Int32} {f : zSt → Int32 → Option β} {Q : α → β → Prop} (k : ∀ σ1, σ1 = zsi σ 0 0 0 → zp2 o (f σ1 0) Q) : zp2 o (zbi (fX12_fails σ 0 c) f) Q := by
  unfold fX12_fails
  rw [if_pos rfl]
  exact k _ rfl
theorem zp2_fails1 {α β : Type} {o : Option α} {σ : zSt} {c : Int32} {f : zSt → Int32 → Option β} {Q : α → β → Prop} (k : ∀ σ1, σ1 = zsi σ 0 0 c → zp2 o (f σ1 1) Q) : zp2 o (zbi (fX12_fails σ 1 c) f) Q := by
  unfold fX12_fails
  rw [if_neg (by decide)]
  exact k _ rfl
theorem zR6.thr {σ μ μ1 : zSt} {v : Int32} (h : zR6 σ μ) (e : μ1 = zsi μ 0 0 v) : zR6 σ μ1 := by
  subst e
  refine ⟨?_, ?_⟩
  · rw [zsi_nj (by decide)]; exact h.1
  · rw [zsi_nj (by decide)]; exact h.2.wM (by decide)
theorem z_c02 {μ μ1 : zSt} {v : Int32} (e : μ1 = zsi μ 0 0 v) : zgi μ1 0 2 = zgi μ 0 2 := by
  subst e
  show (zsi μ 0 0 _).1 0 2 = μ.1 0 2
  rw [zsi_off (by omega)]
theorem z2_feed {σ μ : zSt} {x1 : Int32} {x2 x4 x6 : Int64} (h : zR6 σ μ) (hr : zr 0 262656 (zgi μ 0 2)) : zp2 (fX11_feed σ x1 x2 x4 x6) (fX12_feed μ x1 x2 x4 x6) (fun r r' => zR6 (zRis r) r'.1) := by
  unfold fX11_feed fX11_feed_11 fX12_feed
  have c1 : (1 : Int32).toInt = 1 := rfl
  have c4 : (24 : Int32).toInt = 24 := rfl
  have c2 : (262656 : Int32).toInt = 262656 := rfl
  have c0 : (0 : Int32).toInt = 0 := rfl
  refine zp2_within (fun w1 w2 => ?_) (fun w3 => ?_)
  · have hx := z_wir w1 w2 (zrl_c (lo := 1) (hi := 1) (by decide)) (zrl_c (lo := 24) (hi := 24) (by decide))
    have hx1 := hx.1
    have hx2 := hx.2
    refine zp2_ifr (fun q => absurd q (by decide)) (fun _ => ?_)
    unfold fX12_feed_18
    refine zp2_fails0 (fun μ1 e1 => zp2_ifr (fun _ => ?_) (fun q => absurd rfl q))
    refine zp2_ifl (fun q => ?_) (fun _ => zp2_ifl (fun _ => ?_) (fun q => ?_))
    · have := Int32.lt_iff_toInt_lt.mp q; exfalso; omega
    · have R1 := h.thr e1
      have e : zgi μ1 0 2 = zgi σ 1 2 := (z_c02 e1).trans h.1.symm
      have t : (zgi μ 0 2 + x1).toInt = (zgi μ 0 2).toInt + x1.toInt := z_tadd hr hx (by decide)
      rw [e]
      refine zp2_if (fun q => ?_) (fun q => ?_)
      · have q1 := Int32.le_iff_toInt_le.mp q
        rw [show zgi σ 1 2 = zgi μ 0 2 from h.1, t, c2] at q1
        unfold fX12_feed_42
        refine zp2_fails0 (fun μ2 e2 => zp2_ifr (fun _ => ?_) (fun q => absurd rfl q))
        have e3 : μ2.1 0 2 = zgi μ 0 2 := (z_c02 e2).trans (z_c02 e1)
        have hr1 := hr.1
        exact z2_feed_48 hx _ _ _ _ 0 (R1.thr e2) (zr_c (by decide)) (by omega) (by rw [e3]; exact hr1) (by rw [e3, c0]; omega)
      · unfold fX12_feed_42 fX12_feed_49
        exact zp2_fails1 (fun μ2 e2 => zp2_ifr (fun q => absurd q (by decide)) (fun _ => zp2_some (R1.thr e2)))
    · have := Int32.lt_iff_toInt_lt.mp (z_nle q); exfalso; omega
  · have hn : ¬ zr 1 24 x1 := z_within w3 rfl rfl
    refine zp2_ifr (fun _ => ?_) (fun q => absurd rfl q)
    unfold fX12_feed_18 fX12_feed_49
    refine zp2_fails1 (fun μ1 e1 => zp2_ifr (fun q => absurd q (by decide)) (fun _ => ?_))
    refine zp2_ifl (fun _ => zp2_some (h.thr e1)) (fun q => zp2_ifl (fun q1 => ?_) (fun _ => zp2_some (h.thr e1)))
    have r := Int32.le_iff_toInt_le.mp (z_nlt q)
    have r1 := Int32.le_iff_toInt_le.mp q1
    exact absurd ⟨by omega, by omega⟩ hn
/-! grow -/
theorem z2_grow_15 {x2 x3 : Int32} (h2 : 0 < x2.toInt) (h3 : zr 0 262656 x3) : ∀ (n m : Nat) (σ μ : zSt) (x4 : Int32), x4 = zgi μ 0 2 → x2.toInt ≤ x4.toInt → x4.toInt ≤ x3.toInt → zR6L x4.toInt σ μ → (∀ j : Nat, (j : Int) < x4.toInt → σ.1 (ztp (σ.1 1 0)) j = σ.1 (ztp (σ.1 1 0)) (j % x2.toNatClampNeg)) → zp2 (fX2_repeatTape_15 n σ x2 x3 x4) (fX12_grow_54 m μ x3 x2) (fun r r' => zR6 r r'.1) := by
  intro n
  induction n with
  | zero => intro m σ μ x4 _ _ _ _ _; exact zp2_nl
  | succ n ih =>
    intro m σ μ x4 e4 hle hl3 hR hp
    cases m with
    | zero => exact zp2_nr
    | succ m =>
      show zp2 (fX2_repeatTape_15_body (fX2_repeatTape_15 n) σ x2 x3 x4) (fX12_grow_54_body (fX12_grow_54 m) μ x3 x2) _
      unfold fX2_repeatTape_15_body fX12_grow_54_body
      have b3 := h3.2
      have c0 : (0 : Int32).toInt = 0 := rfl
      rw [← e4]
      refine zp2_if (fun q => ?_) (fun q => ?_)
      · have q1 := Int32.le_iff_toInt_le.mp q
        have e34 : x3 = x4 := Int32.toInt_inj.mp (by omega)
        unfold fX2_repeatTape_47
        refine zp2_bvl (fun σ1 s1 => zp2_some ?_)
        have mx : zmax x2 x3 = x3 := by
          unfold zmax
          split
          · rfl
          · next r => exact Int32.toInt_inj.mp (by have := Int32.le_iff_toInt_le.mp (z_nlt r); omega)
        have l : μ.1 0 2 = x4 := e4.symm
        refine ⟨?_, ?_⟩
        · rw [s1, zsi_ej, mx, l, e34]
        · rw [s1, l]
          exact hR.lenC
      · have q1 := Int32.lt_iff_toInt_lt.mp (z_nle q)
        refine zp2_ifl (fun r => ?_) (fun _ => ?_)
        · have := Int32.le_iff_toInt_le.mp r; exfalso; omega
        · refine zp2_ckl (zp2_ckl (zp2_bvl (fun σ1 s1 => zp2_bvl (fun v v1 => zp2_ckr (zp2_ckr (zp2_ckr (zp2_bvr (fun μ1 m1 => zp2_bvr (fun μ2 m2 => ?_)))))))))
          have c1 : (1 : Int32).toInt = 1 := rfl
          have r1 : zr 1 1 (1 : Int32) := zr_c (by decide)
          have r4 : zr 0 262655 x4 := ⟨by omega, by omega⟩
          have r2 : zr 0 262655 x2 := ⟨by omega, by omega⟩
          have t4 : (x4 + 1).toInt = x4.toInt + (1 : Int32).toInt := z_tadd r4 r1 (by decide)
          have ts : (x4 - x2).toInt = x4.toInt - x2.toInt := z_tsub r4 r2 (by decide)
          have k4 := z_clamp (x := x4) (by omega)
          have k2 := z_clamp (x := x2) (by omega)
          have ks := z_clamp (x := x4 - x2) (by omega)
          have tr := z_trem (y := x2) x2.toInt rfl r4 ⟨by decide, h2⟩
          have m0 := Int.emod_nonneg x4.toInt (b := x2.toInt) (by omega)
          have m9 := Int.emod_lt_of_pos x4.toInt (b := x2.toInt) h2
          have kr := z_clamp (x := zrem x4 x2) (by omega)
          have er : (zrem x4 x2).toNatClampNeg = x4.toNatClampNeg % x2.toNatClampNeg := by
            have e5 : ((x4.toNatClampNeg % x2.toNatClampNeg : Nat) : Int) = (x4.toNatClampNeg : Int) % (x2.toNatClampNeg : Int) := Int.natCast_emod _ _
            rw [k4, k2] at e5
            omega
          have es : (x4 - x2).toNatClampNeg = x4.toNatClampNeg - x2.toNatClampNeg := by omega
          have lt : (x4.toNatClampNeg % x2.toNatClampNeg) < x2.toNatClampNeg := Nat.mod_lt _ (by omega)
          -- the byte
          have hb : σ.1 (ztp (σ.1 1 0)) (x4 - x2).toNatClampNeg = σ.1 (ztp (σ.1 1 0)) (x4.toNatClampNeg % x2.toNatClampNeg) := by
            rw [es, hp _ (by omega), ← Nat.mod_eq_sub_mod (by omega)]
          have hm : σ.1 (ztp (σ.1 1 0)) (x4.toNatClampNeg % x2.toNatClampNeg) = μ.1 1 (x4.toNatClampNeg % x2.toNatClampNeg) &&& 255 := hR.1 _ (by omega)
          have hy : σ.1 (ztp (σ.1 1 0)) (x4 - x2).toNatClampNeg = vp_nar .byte (μ.1 1 (zrem x4 x2).toNatClampNeg) &&& 255 := by rw [z_nar, er, hb]; exact hm
          have R1 : zR6L (x4.toInt + 1) σ1 μ1 := by
            rw [s1, m1]
            exact hR.set hy (fun j hj nj => by omega)
          have a2 : zgi μ1 0 2 = x4 := by
            rw [m1, e4]
            show (zsi μ 1 _ _).1 0 2 = μ.1 0 2
            rw [zsi_off (by omega)]
          have l2 : zgi μ2 0 2 = x4 + 1 := by
            rw [m2, a2]
            exact zsi_ej
          have ev : v = x4 + 1 := v1
          have w1 : σ1.1 1 0 = σ.1 1 0 := by
            rw [s1]
            exact zsi_off (fun r => z_tp1 _ r.1)
          rw [ev]
          refine ih m σ1 μ2 (x4 + 1) l2.symm (by omega) (by omega) ?_ (fun j hj => ?_)
          · rw [t4, c1, m2]
            exact R1.wM (by decide)
          · rw [w1]
            have at1 : ∀ i : Nat, σ1.1 (ztp (σ.1 1 0)) i = if i = x4.toNatClampNeg then σ.1 (ztp (σ.1 1 0)) (x4 - x2).toNatClampNeg else σ.1 (ztp (σ.1 1 0)) i := fun i => by
              rw [s1]
              show (zsi σ (ztp (σ.1 1 0)) _ _).1 (ztp (σ.1 1 0)) i = _
              by_cases q : i = x4.toNatClampNeg
              · rw [if_pos q, q, zsi_ej]; rfl
              · rw [if_neg q, zsi_nj q]
            have lj : j % x2.toNatClampNeg < x2.toNatClampNeg := Nat.mod_lt _ (by omega)
            rw [at1 j, at1 (j % x2.toNatClampNeg), if_neg (show ¬ j % x2.toNatClampNeg = x4.toNatClampNeg by omega)]
            by_cases q : j = x4.toNatClampNeg
            · rw [if_pos q, hb, q]
            · rw [if_neg q]
              exact hp j (by omega)
theorem z2_grow {σ μ : zSt} {x1 : Int32} (h : zR6 σ μ) (hr : zr 0 262656 (zgi μ 0 2)) : zp2 (fX11_grow σ x1) (fX12_grow μ x1) (fun r r' => zR6 (zRis r) r'.1) := by
  unfold fX11_grow fX11_grow_19 fX12_grow fX12_grow_15
  have c2 : (262656 : Int32).toInt = 262656 := rfl
  have c0 : (0 : Int32).toInt = 0 := rfl
  have e12 : zgi σ 1 2 = zgi μ 0 2 := h.1
  refine zp2_bvl (fun v1 e1 => ?_)
  rw [e12] at e1
  subst e1
  have no : zp2 (some (Sum.inr (σ, 1)) : Option zRi) (fX12_grow_20 μ x1 1) (fun r r' => zR6 (zRis r) r'.1) := by
    unfold fX12_grow_20 fX12_grow_47
    exact zp2_fails1 (fun μ1 e1 => zp2_ifr (fun q => absurd q (by decide)) (fun _ => zp2_some (h.thr e1)))
  refine zp2_if (fun _ => no) (fun q => zp2_if (fun q1 => ?_) (fun _ => no))
  have r := Int32.le_iff_toInt_le.mp (z_nlt q)
  have r1 := Int32.le_iff_toInt_le.mp q1
  rw [c2] at r1
  have hr1 := hr.1
  unfold fX12_grow_20
  refine zp2_fails0 (fun μ1 e1 => zp2_ifr (fun _ => ?_) (fun q => absurd rfl q))
  rw [z_c02 e1]
  have R1 := h.thr e1
  refine zp2_if (fun q2 => ?_) (fun q2 => ?_)
  · unfold fX12_grow_40 fX12_grow_47
    exact zp2_fails1 (fun μ2 e2 => zp2_ifr (fun q => absurd q (by decide)) (fun _ => zp2_some (R1.thr e2)))
  · unfold fX12_grow_40 fX2_repeatTape
    refine zp2_fails0 (fun μ2 e2 => zp2_ifr (fun _ => zp2_bvr (fun v5 e5 => ?_)) (fun q => absurd rfl q))
    have R2 := R1.thr e2
    have l2 : zgi μ2 0 2 = zgi μ 0 2 := (z_c02 e2).trans (z_c02 e1)
    have m1 : zmin x1 262656 = x1 := by
      unfold zmin
      rw [if_neg (fun h => by have := Int32.lt_iff_toInt_lt.mp h; omega)]
    have n0 : ¬ (zgi μ 0 2).toInt = 0 := fun z => q2 (Int32.toInt_inj.mp (z.trans c0.symm))
    have two : zp2 (fX2_repeatTape_15 zfuel σ (zgi μ 0 2) x1 (zgi μ 0 2)) (fX12_grow_54 zfuel μ2 x1 (zgi μ 0 2)) (fun r r' => zR6 r r'.1) := by
      refine z2_grow_15 (by omega) ⟨by omega, r1⟩ zfuel zfuel σ μ2 _ l2.symm (Int.le_refl _) r ?_ (fun j hj => ?_)
      · have z := R2.2
        rw [show μ2.1 0 2 = zgi μ 0 2 from l2] at z
        exact z
      · have k := z_clamp (x := zgi μ 0 2) (by omega)
        rw [Nat.mod_eq_of_lt (by omega)]
    rw [e5, l2]
    refine fun a b ea eb => ?_
    have eq : zbu (zbv (zgi σ 1 2) (fun v4 => zbv (zmin x1 262656) (fun v5 => fX2_repeatTape_15 zfuel σ v4 v5 v4))) (fun σ2 => (some (Sum.inl (σ2, zgi μ 0 2)) : Option zRi)) = some a := ea
    have eq2 : zbu (fX2_repeatTape_15 zfuel σ (zgi μ 0 2) x1 (zgi μ 0 2)) (fun σ2 => (some (Sum.inl (σ2, zgi μ 0 2)) : Option zRi)) = some a := by
      rw [← eq]
      show _ = zbu (fX2_repeatTape_15 zfuel σ (zgi σ 1 2) (zmin x1 262656) (zgi σ 1 2)) _
      rw [m1, e12]
    cases q9 : fX2_repeatTape_15 zfuel σ (zgi μ 0 2) x1 (zgi μ 0 2) with
    | none => rw [q9] at eq2; cases eq2
    | some s =>
      rw [q9] at eq2
      have ea2 : (some (Sum.inl (s, zgi μ 0 2)) : Option zRi) = some a := eq2
      cases ea2
      exact two s b q9 eb
/-! patch -/
theorem z2_patch_3 {x1 : Int32} {x2 : Int64} : ∀ (n m : Nat) (σ μ : zSt) (x4 : Int32), zR6 σ μ → zr 0 8 x4 → 0 ≤ x1.toInt → x1.toInt + 8 ≤ (zgi μ 0 2).toInt → (zgi μ 0 2).toInt ≤ 262656 → zp2 (fX2_changeTape_3 n σ x1 x2 x4) (fX12_patch_32 m μ x1 x2 x4) (fun r r' => zR6 r r') := by
  intro n
  induction n with
  | zero => intro m σ μ x4 _ _ _ _ _; exact zp2_nl
  | succ n ih =>
    intro m σ μ x4 hR h4 hx hl hm
    cases m with
    | zero => exact zp2_nr
    | succ m =>
      show zp2 (fX2_changeTape_3_body (fX2_changeTape_3 n) σ x1 x2 x4) (fX12_patch_32_body (fX12_patch_32 m) μ x1 x2 x4) _
      unfold fX2_changeTape_3_body fX12_patch_32_body fX2_changeTape_52
      have c8 : (8 : Int32).toInt = 8 := rfl
      have c0 : (0 : Int32).toInt = 0 := rfl
      have b4 := h4.1
      refine zp2_if (fun q => zp2_some hR) (fun q => ?_)
      have q1 := Int32.lt_iff_toInt_lt.mp (z_nle q)
      have t : (x1 + x4).toInt = x1.toInt + x4.toInt := z_tadd (a := 0) (b := 262656) (c := 0) (d := 8) ⟨hx, by omega⟩ h4 (by decide)
      have e12 : zgi σ 1 2 = zgi μ 0 2 := hR.1
      refine zp2_ifl (fun r => ?_) (fun _ => zp2_ifl (fun r => ?_) (fun _ => ?_))
      · have := Int32.lt_iff_toInt_lt.mp r; exfalso; omega
      · rw [e12] at r
        have := Int32.le_iff_toInt_le.mp r
        exfalso
        omega
      · refine zp2_ckl (zp2_bvl (fun σ1 s1 => zp2_bvl (fun v2 e2 => zp2_ckr (zp2_bvr (fun μ1 m1 => zp2_bvr (fun v3 e3 => ?_))))))
        have R1 : zR6L (μ.1 0 2).toInt σ1 μ1 := by
          rw [s1, m1]
          exact hR.2.set (z_patchb ⟨b4, by omega⟩) (fun j hj _ => hj)
        have l1 : zgi μ1 0 2 = zgi μ 0 2 := by
          rw [m1]
          show (zsi μ 1 _ _).1 0 2 = μ.1 0 2
          rw [zsi_off (by omega)]
        have l0 : σ1.1 1 2 = σ.1 1 2 := by
          rw [s1]
          exact zsi_off (fun r => z_tp1 _ r.1)
        have R2 : zR6 σ1 μ1 := ⟨by rw [l0]; exact hR.1.trans l1.symm, by rw [show μ1.1 0 2 = μ.1 0 2 from l1]; exact R1⟩
        have c1 : (1 : Int32).toInt = 1 := rfl
        have t4 : (x4 + 1).toInt = x4.toInt + (1 : Int32).toInt := z_tadd h4 (zr_c (lo := 1) (hi := 1) (by decide)) (by decide)
        rw [e2, e3]
        exact ih m σ1 μ1 (x4 + 1) R2 ⟨by omega, by omega⟩ hx (by rw [l1]; exact hl) (by rw [l1]; exact hm)
theorem z2_patch {σ μ : zSt} {x1 : Int32} {x2 : Int64} (h : zR6 σ μ) (hr : zr 0 262656 (zgi μ 0 2)) : zp2 (fX11_patch σ x1 x2) (fX12_patch μ x1 x2) (fun r r' => zR6 (zRus r) r') := by
  unfold fX11_patch fX11_patch_18 fX12_patch fX12_patch_16
  have c0 : (0 : Int32).toInt = 0 := rfl
  have c8 : (8 : Int32).toInt = 8 := rfl
  have e12 : zgi σ 1 2 = zgi μ 0 2 := h.1
  have no : zp2 (some (Sum.inr (σ, 1)) : Option zRu) (fX12_patch_21 μ x1 x2 1) (fun r r' => zR6 (zRus r) r') := by
    unfold fX12_patch_21
    exact zp2_fails1 (fun μ1 e1 => zp2_ifr (fun q => absurd q (by decide)) (fun _ => zp2_some (h.thr e1)))
  have t : (zgi μ 0 2 - 8).toInt = (zgi μ 0 2).toInt - (8 : Int32).toInt := z_tsub hr (zr_c (lo := 8) (hi := 8) (by decide)) (by decide)
  rw [e12]
  refine zp2_if (fun _ => no) (fun q => zp2_if (fun q1 => ?_) (fun _ => no))
  have r := Int32.le_iff_toInt_le.mp (z_nlt q)
  have r1 := Int32.le_iff_toInt_le.mp q1
  rw [t, c8] at r1
  unfold fX12_patch_21 fX2_changeTape
  refine zp2_fails0 (fun μ1 e1 => zp2_ifr (fun _ => ?_) (fun q => absurd rfl q))
  have l := z_c02 e1
  have hr2 := hr.2
  have two : zp2 (fX2_changeTape_3 zfuel σ x1 x2 0) (fX12_patch_32 zfuel μ1 x1 x2 0) (fun r r' => zR6 r r') := z2_patch_3 zfuel zfuel σ μ1 0 (h.thr e1) (zr_c (by decide)) (by omega) (by rw [l]; omega) (by rw [l]; exact hr2)
  refine fun a b ea eb => ?_
  cases q9 : fX2_changeTape_3 zfuel σ x1 x2 0 with
  | none => rw [q9] at ea; cases ea
  | some s =>
    rw [q9] at ea
    have ea2 : (some (Sum.inl s) : Option zRu) = some a := ea
    cases ea2
    exact two s b q9 eb
end ZJN4
section ZJN5
/-! what a cartridge's bytes say: the header's place, the paging -/
noncomputable def zHm (b : Nat → Int32) (p : Nat) : Prop := ∀ i, i < 8 → b (p + i) = zt0 i
noncomputable def zHp (z : Int32) (b : Nat → Int32) (p : Nat) : Prop := (p : Int) + 16 ≤ z.toInt ∧ zHm b p
/-- h is the place that both sides find -/
noncomputable def zIsH (z : Int32) (b : Nat → Int32) (h : Int32) : Prop := (zHp z b 32752 ∧ h = 32752) ∨ (¬ zHp z b 32752 ∧ zHp z b 16368 ∧ h = 16368) ∨ (¬ zHp z b 32752 ∧ ¬ zHp z b 16368 ∧ zHp z b 8176 ∧ h = 8176) ∨ (¬ zHp z b 32752 ∧ ¬ zHp z b 16368 ∧ ¬ zHp z b 8176 ∧ h = -1)
theorem zIsH.one {z : Int32} {b : Nat → Int32} {h h' : Int32} (a : zIsH z b h) (c : zIsH z b h') : h = h' := by
  rcases a with ⟨a1, e⟩ | ⟨a1, a2, e⟩ | ⟨a1, a2, a3, e⟩ | ⟨a1, a2, a3, e⟩ <;> rcases c with ⟨c1, f⟩ | ⟨c1, c2, f⟩ | ⟨c1, c2, c3, f⟩ | ⟨c1, c2, c3, f⟩ <;> first | exact e.trans f.symm | exact absurd a1 c1 | exact absurd c1 a1 | exact absurd a2 c2 | exact absurd c2 a2 | exact absurd a3 c3 | exact absurd c3 a3
theorem zHp.cong {z : Int32} {b b' : Nat → Int32} {p : Nat} (e : ∀ j : Nat, (j : Int) < z.toInt → b j = b' j) (h : zHp z b p) : zHp z b' p := ⟨h.1, fun i hi => by rw [← e (p + i) (by have := h.1; omega)]; exact h.2 i hi⟩
theorem zHp_cong {z : Int32} {b b' : Nat → Int32} {p : Nat} (e : ∀ j : Nat, (j : Int) < z.toInt → b j = b' j) : zHp z b p ↔ zHp z b' p := ⟨zHp.cong e, zHp.cong (fun j hj => (e j hj).symm)⟩
theorem zIsH.cong {z : Int32} {b b' : Nat → Int32} {h : Int32} (e : ∀ j : Nat, (j : Int) < z.toInt → b j = b' j) (a : zIsH z b h) : zIsH z b' h := by
  unfold zIsH at a ⊢
  rw [← zHp_cong (p := 32752) e, ← zHp_cong (p := 16368) e, ← zHp_cong (p := 8176) e]
  exact a
noncomputable def zWd (b : Nat → Int32) (p : Nat) : Int32 := b p + 256 * b (p + 1)
noncomputable def zIsP (z : Int32) (b : Nat → Int32) (h v : Int32) : Prop := (¬ 49152 < z ∧ v = 0) ∨ (49152 < z ∧ zWd b 32742 + zWd b 32744 = 65536 ∧ v = 2) ∨ (49152 < z ∧ ¬ zWd b 32742 + zWd b 32744 = 65536 ∧ 0 ≤ h ∧ v = 1) ∨ (49152 < z ∧ ¬ zWd b 32742 + zWd b 32744 = 65536 ∧ ¬ 0 ≤ h ∧ v = 3)
theorem zIsP.one {z : Int32} {b : Nat → Int32} {h v v' : Int32} (a : zIsP z b h v) (c : zIsP z b h v') : v = v' := by
  rcases a with ⟨a1, e⟩ | ⟨a1, a2, e⟩ | ⟨a1, a2, a3, e⟩ | ⟨a1, a2, a3, e⟩ <;> rcases c with ⟨c1, f⟩ | ⟨c1, c2, f⟩ | ⟨c1, c2, c3, f⟩ | ⟨c1, c2, c3, f⟩ <;> first | exact e.trans f.symm | exact absurd a1 c1 | exact absurd c1 a1 | exact absurd a2 c2 | exact absurd c2 a2 | exact absurd a3 c3 | exact absurd c3 a3
theorem zIsP.cong {z : Int32} {b b' : Nat → Int32} {h v : Int32} (e : ∀ j : Nat, (j : Int) < z.toInt → b j = b' j) (a : zIsP z b h v) : zIsP z b' h v := by
  by_cases q : 49152 < z
  · have q1 := Int32.lt_iff_toInt_lt.mp q
    have c : (49152 : Int32).toInt = 49152 := rfl
    unfold zIsP zWd at a ⊢
    rw [← e 32742 (by omega), ← e (32742 + 1) (by omega), ← e 32744 (by omega), ← e (32744 + 1) (by omega)]
    exact a
  · rcases a with ⟨a1, e⟩ | ⟨a1, _⟩ | ⟨a1, _⟩ | ⟨a1, _⟩
    · exact Or.inl ⟨a1, e⟩
    · exact absurd a1 q
    · exact absurd a1 q
    · exact absurd a1 q
/-! the class: bytes of the cartridge -/
noncomputable def zCb (σ : zSt) (j : Nat) : Int32 := σ.1 (ztp (σ.1 1 1)) ((σ.1 1 3).toNatClampNeg + j)
theorem p_romByte {σ : zSt} {x : Int32} (h0 : 0 ≤ x.toInt) (h1 : x.toInt < (σ.1 1 4).toInt) (hb : zr 0 512 (σ.1 1 3)) (hz : (σ.1 1 4).toInt ≤ 262144) : zpc (fX2_romByte σ x) (fun r => r.1 = σ ∧ r.2 = zCb σ x.toNatClampNeg) := by
  unfold fX2_romByte fX2_romByte_26 fX2_romByte_29
  have c0 : (0 : Int32).toInt = 0 := rfl
  refine zpc_if (fun q => ?_) (fun _ => zpc_if (fun q => ?_) (fun _ => zpc_ck (zpc_some ⟨rfl, ?_⟩)))
  · have := Int32.lt_iff_toInt_lt.mp q; exfalso; omega
  · have := Int32.le_iff_toInt_le.mp q
    have : (zgi σ 1 4).toInt = (σ.1 1 4).toInt := rfl
    exfalso
    omega
  · have t : (σ.1 1 3 + x).toInt = (σ.1 1 3).toInt + x.toInt := z_tadd (c := 0) (d := 262144) hb ⟨h0, by omega⟩ (by decide)
    have b1 := hb.1
    have k := z_clamp (x := σ.1 1 3 + x) (by omega)
    have k1 := z_clamp (x := σ.1 1 3) b1
    have k2 := z_clamp (x := x) h0
    show σ.1 (ztp (σ.1 1 1)) (σ.1 1 3 + x).toNatClampNeg = σ.1 (ztp (σ.1 1 1)) ((σ.1 1 3).toNatClampNeg + x.toNatClampNeg)
    rw [show (σ.1 1 3 + x).toNatClampNeg = (σ.1 1 3).toNatClampNeg + x.toNatClampNeg by omega]
section ZCARD
variable {σ : zSt}
theorem p_head_41 {k9 : zSt → Int32 → Int32 → Option (zSt × Int32)} {x2 x3 x4 : Int32} {Q : zSt × Int32 → Prop} (hb : zr 0 512 (σ.1 1 3)) (hz : zr 0 262144 (σ.1 1 4)) (h4 : 0 ≤ x4.toInt) (h5 : x4.toInt + 16 ≤ (σ.1 1 4).toInt) (yes : zHm (zCb σ) x4.toNatClampNeg → Q (σ, x4)) (no : ¬ zHm (zCb σ) x4.toNatClampNeg → zpc (k9 σ x2 (x3 + 1)) Q) : ∀ (n : Nat) (x5 x6 : Int32), zr 0 8 x6 → ((x5 = 1 ∧ ∀ i : Nat, (i : Int) < x6.toInt → zCb σ (x4.toNatClampNeg + i) = zt0 i) ∨ (x5 = 0 ∧ ¬ zHm (zCb σ) x4.toNatClampNeg)) → zpc (fX2_findHeader_41 k9 n σ x2 x3 x4 x5 x6) Q := by
  intro n
  induction n with
  | zero => intro x5 x6 _ _; exact zpc_none
  | succ n ih =>
    intro x5 x6 h6 hI
    show zpc (fX2_findHeader_41_body k9 (fX2_findHeader_41 k9 n) σ x2 x3 x4 x5 x6) _
    unfold fX2_findHeader_41_body
    have c8 : (8 : Int32).toInt = 8 := rfl
    have b6 := h6.1
    have b62 := h6.2
    have hz2 := hz.2
    have k4 := z_clamp h4
    have k6 := z_clamp b6
    have out : ((x5 = 1 ∧ zHm (zCb σ) x4.toNatClampNeg) ∨ (x5 = 0 ∧ ¬ zHm (zCb σ) x4.toNatClampNeg)) → zpc (fX2_findHeader_84 k9 σ x2 x3 x4 x5) Q := fun a => by
      unfold fX2_findHeader_84
      refine zpc_if (fun q => ?_) (fun q => ?_)
      · rcases a with ⟨a1, _⟩ | ⟨_, a2⟩
        · rw [a1] at q; exact absurd q (by decide)
        · exact zpc_bv (fun v e => by subst e; exact no a2)
      · rcases a with ⟨_, a2⟩ | ⟨a1, _⟩
        · exact zpc_some (yes a2)
        · exact absurd a1 q
    refine zpc_if (fun q => ?_) (fun q => zpc_if (fun q1 => ?_) (fun q1 => ?_))
    · have q2 := Int32.le_iff_toInt_le.mp q
      rcases hI with ⟨a1, a2⟩ | a
      · exact out (Or.inl ⟨a1, fun i hi => a2 i (by omega)⟩)
      · exact out (Or.inr a)
    · rcases hI with ⟨a1, _⟩ | a
      · rw [a1] at q1; exact absurd q1 (by decide)
      · exact out (Or.inr a)
    · have q2 := Int32.lt_iff_toInt_lt.mp (z_nle q)
      rcases hI with ⟨a1, a2⟩ | a
      · have t : (x4 + x6).toInt = x4.toInt + x6.toInt := z_tadd (a := 0) (b := 262144) (c := 0) (d := 8) ⟨h4, by omega⟩ h6 (by decide)
        have ks := z_clamp (x := x4 + x6) (by omega)
        refine zpc_bi (p_romByte (x := x4 + x6) (by omega) (by omega) hb hz2) (fun σ1 v4 p => ?_)
        obtain ⟨p1, p2⟩ := p
        have p1 : σ1 = σ := p1
        have p2 : v4 = zCb σ (x4 + x6).toNatClampNeg := p2
        subst p1
        rw [show (x4 + x6).toNatClampNeg = x4.toNatClampNeg + x6.toNatClampNeg by omega] at p2
        have c1 : (1 : Int32).toInt = 1 := rfl
        have t6 : (x6 + 1).toInt = x6.toInt + (1 : Int32).toInt := z_tadd h6 (zr_c (lo := 1) (hi := 1) (by decide)) (by decide)
        unfold fX2_findHeader_76
        refine zpc_ck (zpc_if (fun r => zpc_bv (fun v e => ?_)) (fun r => zpc_bv (fun v e => ?_)))
        · subst e
          refine ih 1 (x6 + 1) ⟨by omega, by omega⟩ (Or.inl ⟨rfl, fun i hi => ?_⟩)
          by_cases qi : i = x6.toNatClampNeg
          · rw [qi, ← p2]; exact r
          · exact a2 i (by omega)
        · subst e
          refine ih 0 (x6 + 1) ⟨by omega, by omega⟩ (Or.inr ⟨rfl, fun m => r ?_⟩)
          rw [p2]
          exact m _ (by omega)
      · exact absurd a.1 q1
theorem p_head_9 {x3 : Int32} {Q : zSt × Int32 → Prop} (hb : zr 0 512 (σ.1 1 3)) (hz : zr 0 262144 (σ.1 1 4)) {i : Nat} (h3 : x3 = Int32.ofNat i) (hi : i < 3) {n : Nat} (yes : zHp (σ.1 1 4) (zCb σ) (zt1 i).toNatClampNeg → Q (σ, zt1 i)) (no : ¬ zHp (σ.1 1 4) (zCb σ) (zt1 i).toNatClampNeg → zpc (fX2_findHeader_9 n σ 3 (x3 + 1)) Q) : zpc (fX2_findHeader_9 (n + 1) σ 3 x3) Q := by
  show zpc (fX2_findHeader_9_body (fX2_findHeader_9 n) σ 3 x3) _
  unfold fX2_findHeader_9_body fX2_findHeader_36
  have l3 : ∀ i : Fin 3, ¬ (3 : Int32) ≤ Int32.ofNat i.val ∧ (Int32.ofNat i.val).toNatClampNeg = i.val ∧ 0 ≤ (zt1 i.val).toInt ∧ (zt1 i.val).toInt ≤ 32752 := by decide +kernel
  obtain ⟨l1, l2, l4, l5⟩ := l3 ⟨i, hi⟩
  have l1 : ¬ (3 : Int32) ≤ x3 := by rw [h3]; exact l1
  have l2 : x3.toNatClampNeg = i := by rw [h3]; exact l2
  have l4 : 0 ≤ (zt1 i).toInt := l4
  have l5 : (zt1 i).toInt ≤ 32752 := l5
  refine zpc_if (fun q => absurd q l1) (fun _ => zpc_ck (zpc_bv (fun v5 e5 => ?_)))
  rw [l2] at e5
  subst e5
  have c6 : (16 : Int32).toInt = 16 := rfl
  have t : (zt1 i + 16).toInt = (zt1 i).toInt + (16 : Int32).toInt := z_tadd (a := 0) (b := 32752) ⟨l4, l5⟩ (zr_c (lo := 16) (hi := 16) (by decide)) (by decide)
  have k := z_clamp l4
  refine zpc_if (fun q => ?_) (fun q => ?_)
  · have q1 := Int32.lt_iff_toInt_lt.mp q
    have g : (zgi σ 1 4).toInt = (σ.1 1 4).toInt := rfl
    have nh : ¬ zHp (σ.1 1 4) (zCb σ) (zt1 i).toNatClampNeg := fun r => by have := r.1; omega
    -- the places are too far: 0 at once
    obtain ⟨m, hm⟩ : ∃ m, zfuel = m + 1 := ⟨1999999, rfl⟩
    rw [hm]
    show zpc (fX2_findHeader_41_body (fX2_findHeader_9 n) (fX2_findHeader_41 (fX2_findHeader_9 n) m) σ 3 x3 (zt1 i) 0 0) Q
    unfold fX2_findHeader_41_body fX2_findHeader_84
    refine zpc_if (fun r => absurd r (by decide)) (fun _ => zpc_if (fun _ => zpc_if (fun _ => zpc_bv (fun v e => ?_)) (fun r => absurd rfl r)) (fun r => absurd rfl r))
    subst e
    exact no nh
  · have q1 := Int32.le_iff_toInt_le.mp (z_nlt q)
    have g : (zgi σ 1 4).toInt = (σ.1 1 4).toInt := rfl
    refine p_head_41 hb hz l4 (by omega) (fun m => yes ⟨by omega, m⟩) (fun m => no (fun r => m r.2)) zfuel 1 0 (zr_c (by decide)) (Or.inl ⟨rfl, fun i hi => ?_⟩)
    have : (0 : Int32).toInt = 0 := rfl
    exfalso
    omega
theorem p_header (hb : zr 0 512 (σ.1 1 3)) (hz : zr 0 262144 (σ.1 1 4)) : zpc (fX2_findHeader σ ) (fun r => r.1 = σ ∧ zIsH (σ.1 1 4) (zCb σ) r.2) := by
  unfold fX2_findHeader
  obtain ⟨m, hm⟩ : ∃ m, zfuel = m + 1 + 1 + 1 + 1 := ⟨1999996, rfl⟩
  rw [hm]
  refine p_head_9 (i := 0) hb hz rfl (by decide) (fun y => ⟨rfl, Or.inl ⟨y, rfl⟩⟩) (fun n0 => ?_)
  refine p_head_9 (i := 1) hb hz (by decide) (by decide) (fun y => ⟨rfl, Or.inr (Or.inl ⟨n0, y, rfl⟩)⟩) (fun n1 => ?_)
  refine p_head_9 (i := 2) hb hz (by decide) (by decide) (fun y => ⟨rfl, Or.inr (Or.inr (Or.inl ⟨n0, n1, y, rfl⟩))⟩) (fun n2 => ?_)
  show zpc (fX2_findHeader_9_body (fX2_findHeader_9 m) σ 3 (0 + 1 + 1 + 1)) _
  unfold fX2_findHeader_9_body
  exact zpc_if (fun _ => zpc_some ⟨rfl, Or.inr (Or.inr (Or.inr ⟨n0, n1, n2, rfl⟩))⟩) (fun r => absurd (by decide) r)
theorem p_romWord {x : Int32} (h0 : 0 ≤ x.toInt) (h1 : x.toInt + 1 < (σ.1 1 4).toInt) (hb : zr 0 512 (σ.1 1 3)) (hz : zr 0 262144 (σ.1 1 4)) : zpc (fX2_romWord σ x) (fun r => r.1 = σ ∧ r.2 = zWd (zCb σ) x.toNatClampNeg) := by
  unfold fX2_romWord
  have hz2 := hz.2
  refine zpc_bi (p_romByte h0 (by omega) hb hz2) (fun σ1 v2 p => ?_)
  obtain ⟨p1, p2⟩ := p
  have p1 : σ1 = σ := p1
  subst p1
  have c1 : (1 : Int32).toInt = 1 := rfl
  have t : (x + 1).toInt = x.toInt + (1 : Int32).toInt := z_tadd (a := 0) (b := 262144) ⟨h0, by omega⟩ (zr_c (lo := 1) (hi := 1) (by decide)) (by decide)
  have k := z_clamp h0
  have k1 := z_clamp (x := x + 1) (by omega)
  refine zpc_bi (p_romByte (x := x + 1) (by omega) (by omega) hb hz2) (fun σ3 v4 p => ?_)
  obtain ⟨r1, r2⟩ := p
  have r1 : σ3 = σ1 := r1
  subst r1
  have p2 : v2 = zCb σ3 x.toNatClampNeg := p2
  have r2 : v4 = zCb σ3 (x + 1).toNatClampNeg := r2
  refine zpc_some ⟨rfl, ?_⟩
  show v2 + (256 * v4) = zCb σ3 x.toNatClampNeg + 256 * zCb σ3 (x.toNatClampNeg + 1)
  rw [p2, r2, show (x + 1).toNatClampNeg = x.toNatClampNeg + 1 by omega]
theorem p_paging (hb : zr 0 512 (σ.1 1 3)) (hz : zr 0 262144 (σ.1 1 4)) : zpc (fX2_findPaging σ ) (fun r => r.1 = σ ∧ zIsP (σ.1 1 4) (zCb σ) (σ.1 1 7) r.2) := by
  unfold fX2_findPaging fX2_findPaging_45
  refine zpc_if (fun q => ?_) (fun q => zpc_some ⟨rfl, Or.inl ⟨q, rfl⟩⟩)
  have q1 := Int32.lt_iff_toInt_lt.mp q
  have c : (49152 : Int32).toInt = 49152 := rfl
  have g : (zgi σ 1 4).toInt = (σ.1 1 4).toInt := rfl
  have c1 : (32742 : Int32).toInt = 32742 := rfl
  have c2 : (32744 : Int32).toInt = 32744 := rfl
  refine zpc_bi (p_romWord (x := 32742) (by omega) (by omega) hb hz) (fun σ1 v2 p => ?_)
  obtain ⟨p1, p2⟩ := p
  have p1 : σ1 = σ := p1
  subst p1
  refine zpc_bi (p_romWord (x := 32744) (by omega) (by omega) hb hz) (fun σ3 v4 p => ?_)
  obtain ⟨r1, r2⟩ := p
  have r1 : σ3 = σ1 := r1
  subst r1
  have p2 : v2 = zWd (zCb σ3) 32742 := p2
  have r2 : v4 = zWd (zCb σ3) 32744 := r2
  rw [p2, r2]
  refine zpc_if (fun s => zpc_some ⟨rfl, Or.inr (Or.inl ⟨q, s, rfl⟩)⟩) (fun s => zpc_if (fun u => zpc_some ⟨rfl, Or.inr (Or.inr (Or.inl ⟨q, s, u, rfl⟩))⟩) (fun u => zpc_some ⟨rfl, Or.inr (Or.inr (Or.inr ⟨q, s, u, rfl⟩))⟩))
end ZCARD
end ZJN5
section ZJN6
/-! the reference's load -/
noncomputable def zMb (μ : zSt) (j : Nat) : Int32 := μ.1 2 j &&& 255
noncomputable def zMid (z bk : Int32) (B : Nat → Int32) (μ : zSt) : Prop := μ.1 0 5 = z ∧ μ.1 0 6 = bk ∧ ∀ j : Nat, (j : Int) < z.toInt → μ.1 2 j &&& 255 = B j
noncomputable def zFin (z bk : Int32) (B : Nat → Int32) (r : zSt × Int32) : Prop := zMid z bk B r.1 ∧ zIsH z B (r.1.1 0 8) ∧ zIsP z B (r.1.1 0 8) (r.1.1 0 7) ∧ (0 ≤ (r.1.1 0 8).toInt → r.1.1 0 9 = zSum z (r.1.1 0 8) B)
theorem zMid.w {z bk : Int32} {B : Nat → Int32} {μ μ1 : zSt} {j : Nat} {v : Int32} (h : zMid z bk B μ) (e : μ1 = zsi μ 0 j v) (c : ¬ 5 = j ∧ ¬ 6 = j) : zMid z bk B μ1 := by
  subst e
  refine ⟨?_, ?_, fun i hi => ?_⟩
  · rw [zsi_nj c.1]; exact h.1
  · rw [zsi_nj c.2]; exact h.2.1
  · rw [zsi_ne (by decide)]; exact h.2.2 i hi
theorem zSm_cong {b b' : Nat → Int32} : ∀ (n i : Nat) (a : Int32), (∀ j, i ≤ j → j < i + n → b j = b' j) → zSm b n i a = zSm b' n i a := by
  intro n
  induction n with
  | zero => intro i a _; rfl
  | succ n ih =>
    intro i a h
    show zSm b n (i + 1) (a + b i) = zSm b' n (i + 1) (a + b' i)
    rw [h i (by omega) (by omega)]
    exact ih (i + 1) _ (fun j h1 h2 => h j (by omega) (by omega))
theorem zSum_cong {z h : Int32} {b b' : Nat → Int32} (e : ∀ j : Nat, (j : Int) < z.toInt → b j = b' j) (h0 : 0 ≤ h.toInt) (h1 : h.toInt + 16 ≤ z.toInt) : zSum z h b = zSum z h b' := by
  have kh := z_clamp h0
  have kz := z_clamp (x := z) (by omega)
  unfold zSum
  rw [zSm_cong (b := b) (b' := b') h.toNatClampNeg 0 0 (fun j _ h2 => e j (by omega)), zSm_cong (b := b) (b' := b') (z.toNatClampNeg - 32768) 32768 _ (fun j h1 h2 => e j (by omega)), e (h.toNatClampNeg + 15) (by omega)]
theorem z_and15 {x : Int32} : x &&& 15 = (x &&& 255) &&& 15 := by
  rw [Int32.and_assoc, show (255 : Int32) &&& 15 = 15 by decide]
section ZLOAD
variable {z bk : Int32} {B : Nat → Int32}
theorem d_404 {μ : zSt} {s0 : Int32} (hm : zMid z bk B μ) (hh : zIsH z B (μ.1 0 8)) (hp : zIsP z B (μ.1 0 8) (μ.1 0 7)) (hs : 0 ≤ (μ.1 0 8).toInt → s0 = zSum z (μ.1 0 8) B) : zpc (fX12_load_404 μ s0) (zFin z bk B) := by
  unfold fX12_load_404
  refine zpc_bv (fun μ1 e1 => ?_)
  have k1 : zKeM μ1 μ1 := ⟨rfl, rfl, fun _ _ => rfl⟩
  refine zpc_bu (w_fX12_anew k1) (fun μ2 k2 => zpc_mono (w_fX12_load_414 (σ0 := μ1) _ _ _ k2) (fun r k => ?_))
  obtain ⟨_, a2, a3⟩ := k
  have m1 : zMid z bk B μ1 := hm.w e1 (by decide)
  have e8 : r.1.1 0 8 = μ.1 0 8 := (a3 8 (by decide)).trans (by rw [e1]; exact zsi_nj (by decide))
  have e7 : r.1.1 0 7 = μ.1 0 7 := (a3 7 (by decide)).trans (by rw [e1]; exact zsi_nj (by decide))
  have e9 : r.1.1 0 9 = s0 := (a3 9 (by decide)).trans (by rw [e1]; exact zsi_ej)
  refine ⟨⟨(a3 5 (by decide)).trans m1.1, (a3 6 (by decide)).trans m1.2.1, fun j hj => by rw [a2]; exact m1.2.2 j hj⟩, ?_, ?_, ?_⟩
  · rw [e8]; exact hh
  · rw [e8, e7]; exact hp
  · rw [e8, e9]; exact hs
theorem d_385 {μ : zSt} (hm : zMid z bk B μ) (hh : zIsH z B (μ.1 0 8)) (hp : zIsP z B (μ.1 0 8) (μ.1 0 7)) (hs : 0 ≤ (μ.1 0 8).toInt → μ.1 0 9 &&& 65535 = zSum z (μ.1 0 8) B) : zpc (fX12_load_385 μ ) (zFin z bk B) := by
  unfold fX12_load_385
  have c0 : (0 : Int32).toInt = 0 := rfl
  refine zpc_if (fun q => d_404 hm hh hp hs) (fun q => d_404 hm hh hp (fun r => absurd (Int32.le_iff_toInt_le.mpr (by rw [c0]; exact r)) q))
/-- the second loop, where the bytes from 32768 on count -/
theorem d_337 {x5 : Int32} {S : Int32} (hl : 13 < x5 ∨ ¬ 3 ≤ x5) (hz : zr 0 262144 z) : ∀ (n : Nat) (μ : zSt) (x6 : Int32), zr 32768 262144 x6 → zMid z bk B μ → zIsH z B (μ.1 0 8) → zIsP z B (μ.1 0 8) (μ.1 0 7) → zSm B (z.toNatClampNeg - x6.toNatClampNeg) x6.toNatClampNeg (μ.1 0 9) = S → (0 ≤ (μ.1 0 8).toInt → S &&& 65535 = zSum z (μ.1 0 8) B) → zpc (fX12_load_337 n μ x5 x6) (zFin z bk B) := by
  intro n
  induction n with
  | zero => intro μ x6 _ _ _ _ _ _; exact zpc_none
  | succ n ih =>
    intro μ x6 h6 hm hh hp hS hs
    show zpc (fX12_load_337_body (fX12_load_337 n) μ x5 x6) _
    unfold fX12_load_337_body
    have b6 := h6.1
    have k6 := z_clamp (x := x6) (by omega)
    have kz := z_clamp hz.1
    have z2 := hz.2
    have g5 : zgi μ 0 5 = z := hm.1
    rw [g5]
    have go : ¬ z ≤ x6 → zpc (fX12_load_359 (fX12_load_337 n) μ x5 x6) (zFin z bk B) := fun q => by
      have q1 := Int32.lt_iff_toInt_lt.mp (z_nle q)
      unfold fX12_load_359
      refine zpc_ck (zpc_bv (fun μ1 e1 => zpc_bv (fun v e => ?_)))
      subst e
      have c1 : (1 : Int32).toInt = 1 := rfl
      have t : (x6 + 1).toInt = x6.toInt + (1 : Int32).toInt := z_tadd h6 (zr_c (lo := 1) (hi := 1) (by decide)) (by decide)
      have k7 := z_clamp (x := x6 + 1) (by omega)
      have e8 : μ1.1 0 8 = μ.1 0 8 := by rw [e1]; exact zsi_nj (by decide)
      have e7 : μ1.1 0 7 = μ.1 0 7 := by rw [e1]; exact zsi_nj (by decide)
      have e9 : μ1.1 0 9 = μ.1 0 9 + B x6.toNatClampNeg := by
        rw [e1, zsi_ej, ← hm.2.2 x6.toNatClampNeg (by omega)]
        rfl
      refine ih μ1 (x6 + 1) ⟨by omega, by omega⟩ (hm.w e1 (by decide)) (by rw [e8]; exact hh) (by rw [e8, e7]; exact hp) ?_ (by rw [e8]; exact hs)
      rw [← hS, e9, show (x6 + 1).toNatClampNeg = x6.toNatClampNeg + 1 by omega, show z.toNatClampNeg - x6.toNatClampNeg = (z.toNatClampNeg - (x6.toNatClampNeg + 1)) + 1 by omega]
      rfl
    have stop : z ≤ x6 → zpc (fX12_load_385 μ ) (zFin z bk B) := fun q => by
      have q1 := Int32.le_iff_toInt_le.mp q
      rw [show z.toNatClampNeg - x6.toNatClampNeg = 0 by omega] at hS
      have hS : μ.1 0 9 = S := hS
      exact d_385 hm hh hp (fun r => by rw [hS]; exact hs r)
    refine zpc_if (fun q => stop q) (fun q => zpc_if (fun _ => go q) (fun q1 => zpc_if (fun q2 => ?_) (fun _ => go q)))
    rcases hl with a | a
    · exact absurd a q1
    · exact absurd q2 a
theorem d_337s {x5 : Int32} (h1 : ¬ 13 < x5) (h2 : 3 ≤ x5) {n : Nat} {μ : zSt} (hm : zMid z bk B μ) (hh : zIsH z B (μ.1 0 8)) (hp : zIsP z B (μ.1 0 8) (μ.1 0 7)) (hs : 0 ≤ (μ.1 0 8).toInt → μ.1 0 9 &&& 65535 = zSum z (μ.1 0 8) B) : zpc (fX12_load_337 n μ x5 32768) (zFin z bk B) := by
  cases n with
  | zero => exact zpc_none
  | succ n =>
    show zpc (fX12_load_337_body (fX12_load_337 n) μ x5 32768) _
    unfold fX12_load_337_body
    exact zpc_if (fun _ => d_385 hm hh hp hs) (fun _ => zpc_if (fun q => absurd q h1) (fun _ => zpc_if (fun _ => d_385 hm hh hp hs) (fun q => absurd h2 q)))
/-- the first loop -/
theorem d_298 {x5 h : Int32} (hz : zr 0 262144 z) (hhz : h.toInt < z.toInt) (hc : 0 ≤ h.toInt → x5 = B (h.toNatClampNeg + 15) &&& 15) : ∀ (n : Nat) (μ : zSt) (x6 : Int32), μ.1 0 8 = h → 0 ≤ x6.toInt → x6.toInt ≤ 262144 → zMid z bk B μ → zIsH z B h → zIsP z B h (μ.1 0 7) → (0 ≤ h.toInt → x6.toInt ≤ h.toInt ∧ zSm B (h.toNatClampNeg - x6.toNatClampNeg) x6.toNatClampNeg (μ.1 0 9) = zSm B h.toNatClampNeg 0 0) → zpc (fX12_load_298 n μ x5 x6) (zFin z bk B) := by
  intro n
  induction n with
  | zero => intro μ x6 _ _ _ _ _ _ _; exact zpc_none
  | succ n ih =>
    intro μ x6 e8 h0 h6 hm hh hp hS
    show zpc (fX12_load_298_body (fX12_load_298 n) μ x5 x6) _
    unfold fX12_load_298_body
    have k6 := z_clamp h0
    have z2 := hz.2
    rw [show zgi μ 0 8 = h from e8]
    refine zpc_if (fun q => ?_) (fun q => ?_)
    · have q1 := Int32.le_iff_toInt_le.mp q
      have hs9 : 0 ≤ h.toInt → μ.1 0 9 = zSm B h.toNatClampNeg 0 0 := fun r => by
        obtain ⟨s1, s2⟩ := hS r
        have kh := z_clamp r
        rw [show h.toNatClampNeg - x6.toNatClampNeg = 0 by omega] at s2
        exact s2
      by_cases q2 : 13 < x5
      · refine d_337 (S := zSm B (z.toNatClampNeg - 32768) 32768 (μ.1 0 9)) (Or.inl q2) hz zfuel μ 32768 (zr_c (by decide)) hm (by rw [e8]; exact hh) (by rw [e8]; exact hp) rfl (fun r => ?_)
        rw [e8] at r ⊢
        unfold zSum
        rw [← hc r, if_pos q2, hs9 r]
      · by_cases q3 : 3 ≤ x5
        · refine d_337s q2 q3 hm (by rw [e8]; exact hh) (by rw [e8]; exact hp) (fun r => ?_)
          rw [e8] at r ⊢
          unfold zSum
          rw [← hc r, if_neg q2, if_pos q3, hs9 r]
        · refine d_337 (S := zSm B (z.toNatClampNeg - 32768) 32768 (μ.1 0 9)) (Or.inr q3) hz zfuel μ 32768 (zr_c (by decide)) hm (by rw [e8]; exact hh) (by rw [e8]; exact hp) rfl (fun r => ?_)
          rw [e8] at r ⊢
          unfold zSum
          rw [← hc r, if_neg q2, if_neg q3, hs9 r]
    · have q1 := Int32.lt_iff_toInt_lt.mp (z_nle q)
      refine zpc_ck (zpc_bv (fun μ1 e1 => zpc_bv (fun v e => ?_)))
      subst e
      have c1 : (1 : Int32).toInt = 1 := rfl
      have t : (x6 + 1).toInt = x6.toInt + (1 : Int32).toInt := z_tadd (a := 0) (b := 262144) ⟨h0, h6⟩ (zr_c (lo := 1) (hi := 1) (by decide)) (by decide)
      have k7 := z_clamp (x := x6 + 1) (by omega)
      have f8 : μ1.1 0 8 = h := by rw [e1, zsi_nj (by decide)]; exact e8
      have f7 : μ1.1 0 7 = μ.1 0 7 := by rw [e1]; exact zsi_nj (by decide)
      have f9 : μ1.1 0 9 = μ.1 0 9 + B x6.toNatClampNeg := by
        rw [e1, zsi_ej, ← hm.2.2 x6.toNatClampNeg (by omega)]
        rfl
      refine ih μ1 (x6 + 1) f8 (by omega) (by omega) (hm.w e1 (by decide)) hh (by rw [f7]; exact hp) (fun r => ⟨by omega, ?_⟩)
      obtain ⟨s1, s2⟩ := hS r
      have kh := z_clamp r
      rw [← s2, f9, show (x6 + 1).toNatClampNeg = x6.toNatClampNeg + 1 by omega, show h.toNatClampNeg - x6.toNatClampNeg = (h.toNatClampNeg - (x6.toNatClampNeg + 1)) + 1 by omega]
      rfl
theorem zIsH.lt {h : Int32} (a : zIsH z B h) (hz : 0 ≤ z.toInt) : h.toInt < z.toInt ∧ (0 ≤ h.toInt → h.toInt + 16 ≤ z.toInt) := by
  rcases a with ⟨a1, e⟩ | ⟨_, a1, e⟩ | ⟨_, _, a1, e⟩ | ⟨_, _, _, e⟩
  · have := a1.1; rw [e, show (32752 : Int32).toInt = 32752 from rfl]; omega
  · have := a1.1; rw [e, show (16368 : Int32).toInt = 16368 from rfl]; omega
  · have := a1.1; rw [e, show (8176 : Int32).toInt = 8176 from rfl]; omega
  · rw [e, show (-1 : Int32).toInt = -1 from rfl]; omega
theorem d_259 {μ : zSt} {s0 : Int32} (hz : zr 0 262144 z) (hm : zMid z bk B μ) (hh : zIsH z B (μ.1 0 8)) (hp : zIsP z B (μ.1 0 8) s0) : zpc (fX12_load_259 μ s0) (zFin z bk B) := by
  unfold fX12_load_259 fX12_load_293
  refine zpc_bv (fun μ1 e1 => zpc_bv (fun μ2 e2 => ?_))
  have m2 := (hm.w e1 (by decide)).w e2 (by decide)
  have f8 : μ2.1 0 8 = μ.1 0 8 := by rw [e2, zsi_nj (by decide), e1]; exact zsi_nj (by decide)
  have f7 : μ2.1 0 7 = s0 := by rw [e2, zsi_nj (by decide), e1]; exact zsi_ej
  have f9 : μ2.1 0 9 = 0 := by rw [e2]; exact zsi_ej
  obtain ⟨l1, l2⟩ := hh.lt hz.1
  have z2 := hz.2
  have c0 : (0 : Int32).toInt = 0 := rfl
  rw [show zgi μ2 0 8 = μ.1 0 8 from f8]
  refine zpc_if (fun q => zpc_ck ?_) (fun q => ?_)
  · have q1 := Int32.le_iff_toInt_le.mp q
    rw [c0] at q1
    have l3 := l2 q1
    have t : (μ.1 0 8 + 15).toInt = (μ.1 0 8).toInt + (15 : Int32).toInt := z_tadd (a := 0) (b := 262144) ⟨q1, by omega⟩ (zr_c (lo := 15) (hi := 15) (by decide)) (by decide)
    have c5 : (15 : Int32).toInt = 15 := rfl
    have k := z_clamp q1
    have k1 := z_clamp (x := μ.1 0 8 + 15) (by omega)
    refine d_298 (h := μ.1 0 8) hz l1 (fun _ => ?_) zfuel μ2 0 f8 (by decide) (by decide) m2 hh (by rw [f7]; exact hp) (fun _ => ⟨q1, ?_⟩)
    · show μ2.1 2 (μ.1 0 8 + 15).toNatClampNeg &&& 15 = _
      rw [z_and15, m2.2.2 _ (by omega), show (μ.1 0 8 + 15).toNatClampNeg = (μ.1 0 8).toNatClampNeg + 15 by omega]
    · rw [f9]
      rfl
  · refine d_298 (h := μ.1 0 8) hz l1 (fun r => absurd (Int32.le_iff_toInt_le.mpr (by rw [c0]; exact r)) q) zfuel μ2 0 f8 (by decide) (by decide) m2 hh (by rw [f7]; exact hp) (fun r => absurd (Int32.le_iff_toInt_le.mpr (by rw [c0]; exact r)) q)
end ZLOAD
end ZJN6
section ZJN7
/-! words, paging, header in the reference -/
theorem z_word {x y : Int32} (hx : zr 0 255 x) (hy : zr 0 255 y) : (y <<< ((8 : Int32) &&& 31)) ||| x = x + 256 * y := by
  have x0 := hx.1
  have x1 := hx.2
  have y0 := hy.1
  have y1 := hy.2
  have nx := z_tN x0
  have ny := z_tN y0
  have e1 : (y <<< ((8 : Int32) &&& 31)).toBitVec = y.toBitVec <<< (((8 : Int32) &&& 31).toBitVec.smod 32).toNat := rfl
  have e2 : (y <<< ((8 : Int32) &&& 31)).toBitVec.toNat = 2 ^ 8 * y.toBitVec.toNat := by
    rw [e1, show (((8 : Int32) &&& 31).toBitVec.smod 32).toNat = 8 from rfl, BitVec.toNat_shiftLeft, Nat.shiftLeft_eq, Nat.mul_comm, Nat.mod_eq_of_lt (by omega)]
  have e3 : ((y <<< ((8 : Int32) &&& 31)) ||| x).toBitVec.toNat = 2 ^ 8 * y.toBitVec.toNat + x.toBitVec.toNat := by
    rw [Int32.toBitVec_or, BitVec.toNat_or, e2, Nat.two_pow_add_eq_or_of_lt (by omega)]
  have e4 := z_Nt e3 (by omega)
  have t1 := z_tmul (x := (256 : Int32)) (y := y) (zr_c (lo := 256) (hi := 256) (by decide)) hy (by decide)
  have r1 := zr_mul (lo := 0) (hi := 65280) (x := (256 : Int32)) (y := y) (zr_c (lo := 256) (hi := 256) (by decide)) hy (by decide)
  have t2 := z_tadd hx r1 (by decide)
  have c : (256 : Int32).toInt = 256 := rfl
  refine Int32.toInt_inj.mp ?_
  rw [e4, t2, t1, c]
  omega
theorem z_byte (x : Int32) : zr 0 255 (x &&& 255) := zr_andr (lo := 0) (hi := 255) (zr_c (lo := 255) (hi := 255) (by decide)) (by decide)
theorem p_bytesAt {μ : zSt} {x : Int32} (h : zr 0 262142 x) : zpc (fX12_bytesAt μ x 2) (fun r => r.1 = μ ∧ r.2 = zWd (zMb μ) x.toNatClampNeg) := by
  unfold fX12_bytesAt
  obtain ⟨m, hm⟩ : ∃ m, zfuel = m + 1 + 1 + 1 := ⟨1999997, rfl⟩
  refine zpc_bv (fun v3 e3 => ?_)
  subst e3
  rw [hm]
  show zpc (fX12_bytesAt_7_body (fX12_bytesAt_7 (m + 1 + 1)) μ x 0 (2 - 1)) _
  unfold fX12_bytesAt_7_body
  refine zpc_if (fun q => absurd q (by decide)) (fun _ => zpc_ck (zpc_bv (fun v1 e1 => zpc_bv (fun v2 e2 => ?_))))
  subst e2
  show zpc (fX12_bytesAt_7_body (fX12_bytesAt_7 (m + 1)) μ x v1 (2 - 1 + (-1))) _
  unfold fX12_bytesAt_7_body
  refine zpc_if (fun q => absurd q (by decide)) (fun _ => zpc_ck (zpc_bv (fun w1 f1 => zpc_bv (fun w2 f2 => ?_))))
  subst f2
  show zpc (fX12_bytesAt_7_body (fX12_bytesAt_7 m) μ x w1 (2 - 1 + (-1) + (-1))) _
  unfold fX12_bytesAt_7_body
  refine zpc_if (fun _ => zpc_some ⟨rfl, ?_⟩) (fun q => absurd (by decide) q)
  show w1 = zWd (zMb μ) x.toNatClampNeg
  have h0 := h.1
  have k := z_clamp h0
  have c1 : ((2 : Int32) - 1).toInt = 1 := rfl
  have t : (x + (2 - 1)).toInt = x.toInt + ((2 : Int32) - 1).toInt := z_tadd h (zr_c (lo := 1) (hi := 1) (x := 2 - 1) (by decide)) (by decide)
  have k1 := z_clamp (x := x + (2 - 1)) (by omega)
  have z0 : x + (2 - 1 + (-1)) = x := by rw [show ((2 : Int32) - 1 + (-1)) = 0 by decide, Int32.add_zero]
  have v : v1 = zMb μ (x.toNatClampNeg + 1) := by
    rw [e1, show ((0 : Int32) <<< ((8 : Int32) &&& 31)) = 0 by decide, Int32.zero_or]
    show μ.1 2 (x + (2 - 1)).toNatClampNeg &&& 255 = _
    rw [show (x + (2 - 1)).toNatClampNeg = x.toNatClampNeg + 1 by omega]
    rfl
  rw [f1, z0, v]
  exact z_word (z_byte _) (z_byte _)
theorem zWd_r {b : Nat → Int32} {p : Nat} (h0 : zr 0 255 (b p)) (h1 : zr 0 255 (b (p + 1))) : zr 0 65535 (zWd b p) := zr_add (lo := 0) (hi := 65535) h0 (zr_mul (lo := 0) (hi := 65280) (zr_c (lo := 256) (hi := 256) (by decide)) h1 (by decide)) (by decide)
section ZLOAD2
variable {z bk : Int32} {B : Nat → Int32}
theorem zMid.wd {μ : zSt} (hm : zMid z bk B μ) {p : Nat} (h : (p : Int) + 1 < z.toInt) : zWd (zMb μ) p = zWd B p := by
  unfold zWd zMb
  rw [hm.2.2 p (by omega), hm.2.2 (p + 1) (by omega)]
theorem d_247 {μ : zSt} (hz : zr 0 262144 z) (hm : zMid z bk B μ) (hh : zIsH z B (μ.1 0 8)) (q : 49152 < z) (ne : ¬ zWd B 32742 + zWd B 32744 = 65536) : zpc (fX12_load_247 μ ) (zFin z bk B) := by
  unfold fX12_load_247
  exact zpc_if (fun r => d_259 hz hm hh (Or.inr (Or.inr (Or.inl ⟨q, ne, r, rfl⟩)))) (fun r => d_259 hz hm hh (Or.inr (Or.inr (Or.inr ⟨q, ne, r, rfl⟩))))
theorem d_192 {μ : zSt} (hz : zr 0 262144 z) (hB : ∀ j, zr 0 255 (B j)) (hm : zMid z bk B μ) (hh : zIsH z B (μ.1 0 8)) {s0 : Int32} (h0 : 49152 < z → s0 = zWd B 32742) : zpc (fX12_load_192 μ s0) (zFin z bk B) := by
  unfold fX12_load_192
  have g5 : zgi μ 0 5 = z := hm.1
  have c : (49152 : Int32).toInt = 49152 := rfl
  have c0 : (0 : Int32).toInt = 0 := rfl
  have c6 : (65536 : Int32).toInt = 65536 := rfl
  rw [g5]
  refine zpc_if (fun q => ?_) (fun q => ?_)
  · have nq : ¬ 49152 < z := fun r => by have := Int32.lt_iff_toInt_lt.mp r; have := Int32.le_iff_toInt_le.mp q; omega
    unfold fX12_load_214
    rw [g5]
    exact zpc_if (fun r => absurd r nq) (fun _ => d_259 hz hm hh (Or.inl ⟨nq, rfl⟩))
  · have q1 := Int32.lt_iff_toInt_lt.mp (z_nle q)
    have yq : 49152 < z := Int32.lt_iff_toInt_lt.mpr (by omega)
    refine zpc_bi (p_bytesAt (x := 32744) (zr_c (by decide))) (fun μ1 v p => ?_)
    obtain ⟨p1, p2⟩ := p
    have p1 : μ1 = μ := p1
    subst p1
    have p2 : v = zWd (zMb μ1) 32744 := p2
    rw [hm.wd (by omega)] at p2
    unfold fX12_load_214
    rw [g5, h0 yq, p2]
    have r1 := zWd_r (hB 32742) (hB (32742 + 1))
    have r2 := zWd_r (hB 32744) (hB (32744 + 1))
    have t := z_tadd r1 r2 (by decide)
    refine zpc_if (fun _ => zpc_if (fun r => ?_) (fun r => zpc_if (fun s => ?_) (fun s => d_247 hz hm hh yq s))) (fun r => absurd yq r)
    · refine d_247 hz hm hh yq (fun s => ?_)
      have r3 := Int32.le_iff_toInt_le.mp r
      have r4 := r2.2
      rw [s, c6] at t
      omega
    · exact d_259 hz hm hh (Or.inr (Or.inl ⟨yq, s, rfl⟩))
/-- isHeader -/
theorem p_isH_15 {μ : zSt} {x1 : Int32} (hm : zMid z bk B μ) (h1 : 0 ≤ x1.toInt) (h2 : x1.toInt + 16 ≤ z.toInt) (hz : z.toInt ≤ 262144) : ∀ (n : Nat) (x2 : Int32), zr 0 8 x2 → (∀ i : Nat, (i : Int) < x2.toInt → B (x1.toNatClampNeg + i) = zt0 i) → zpc (fX12_isHeader_15 n μ x1 x2) (fun r => r.1 = μ ∧ ((zHm B x1.toNatClampNeg ∧ r.2 = 1) ∨ (¬ zHm B x1.toNatClampNeg ∧ r.2 = 0))) := by
  intro n
  induction n with
  | zero => intro x2 _ _; exact zpc_none
  | succ n ih =>
    intro x2 h3 hI
    show zpc (fX12_isHeader_15_body (fX12_isHeader_15 n) μ x1 x2) _
    unfold fX12_isHeader_15_body
    have c8 : (8 : Int32).toInt = 8 := rfl
    have b0 := h3.1
    have b8 := h3.2
    have k1 := z_clamp h1
    have k2 := z_clamp b0
    refine zpc_if (fun q => ?_) (fun q => zpc_ck ?_)
    · have q1 := Int32.le_iff_toInt_le.mp q
      have e8 : x2 = 8 := Int32.toInt_inj.mp (by omega)
      unfold fX12_isHeader_114 fX12_isHeader_125
      refine zpc_if (fun _ => zpc_ck (zpc_some ⟨rfl, Or.inl ⟨fun i hi => hI i (by omega), rfl⟩⟩)) (fun r => absurd e8 r)
    · have q1 := Int32.lt_iff_toInt_lt.mp (z_nle q)
      have t : (x1 + x2).toInt = x1.toInt + x2.toInt := z_tadd (a := 0) (b := 262144) (c := 0) (d := 8) ⟨h1, by omega⟩ h3 (by decide)
      have ks := z_clamp (x := x1 + x2) (by omega)
      have by1 : (zgi μ 2 (x1 + x2).toNatClampNeg) &&& 255 = B (x1.toNatClampNeg + x2.toNatClampNeg) := by
        rw [← hm.2.2 _ (by omega), show (x1 + x2).toNatClampNeg = x1.toNatClampNeg + x2.toNatClampNeg by omega]
        rfl
      rw [by1]
      have go : ∀ s0, s0 = zt0 x2.toNatClampNeg → zpc (fX12_isHeader_105 (fX12_isHeader_15 n) μ x1 x2 s0 (B (x1.toNatClampNeg + x2.toNatClampNeg))) (fun r => r.1 = μ ∧ ((zHm B x1.toNatClampNeg ∧ r.2 = 1) ∨ (¬ zHm B x1.toNatClampNeg ∧ r.2 = 0))) := fun s0 e0 => by
        unfold fX12_isHeader_105 fX12_isHeader_114 fX12_isHeader_125
        rw [e0]
        refine zpc_if (fun r => zpc_bv (fun v e => ?_)) (fun r => ?_)
        · subst e
          have c1 : (1 : Int32).toInt = 1 := rfl
          have t2 : (x2 + 1).toInt = x2.toInt + (1 : Int32).toInt := z_tadd h3 (zr_c (lo := 1) (hi := 1) (by decide)) (by decide)
          refine ih (x2 + 1) ⟨by omega, by omega⟩ (fun i hi => ?_)
          by_cases qi : i = x2.toNatClampNeg
          · rw [qi]; exact r
          · exact hI i (by omega)
        · refine zpc_if (fun s => ?_) (fun _ => zpc_ck (zpc_some ⟨rfl, Or.inr ⟨fun m => r (m _ (by omega)), rfl⟩⟩))
          rw [s] at q1
          exact absurd q1 (by decide)
      have lit : ∀ m : Nat, x2 = Int32.ofNat m → m < 8 → x2.toNatClampNeg = m := fun m e hm => by
        rw [e]
        have k : ∀ i : Fin 8, (Int32.ofNat i.val).toNatClampNeg = i.val := by decide
        exact k ⟨m, hm⟩
      refine zpc_if (fun r => go _ (by rw [lit 0 r (by decide)]; rfl)) (fun r0 => zpc_if (fun r => go _ (by rw [lit 1 r (by decide)]; rfl)) (fun r1 => zpc_if (fun r => go _ (by rw [lit 2 r (by decide)]; rfl)) (fun r2 => zpc_if (fun r => go _ (by rw [lit 3 r (by decide)]; rfl)) (fun r3 => zpc_if (fun r => go _ (by rw [lit 4 r (by decide)]; rfl)) (fun r4 => zpc_if (fun r => go _ (by rw [lit 5 r (by decide)]; rfl)) (fun r5 => zpc_if (fun r => go _ (by rw [lit 6 r (by decide)]; rfl)) (fun r6 => ?_)))))))
      have e7 : x2 = Int32.ofNat 7 := by
        obtain ⟨i, hi⟩ : ∃ i : Nat, x2.toInt = i := ⟨x2.toInt.toNat, by omega⟩
        have e := z_ofN hi
        have n0 : ∀ m : Nat, ¬ x2 = Int32.ofNat m → ¬ i = m := fun m h r => h (by rw [e, r])
        have a0 := n0 0 r0
        have a1 := n0 1 r1
        have a2 := n0 2 r2
        have a3 := n0 3 r3
        have a4 := n0 4 r4
        have a5 := n0 5 r5
        have a6 := n0 6 r6
        rw [e, show i = 7 by omega]
      exact go _ (by rw [lit 7 e7 (by decide)]; rfl)
theorem p_isH {μ : zSt} {x1 : Int32} (hm : zMid z bk B μ) (h1 : zr 0 32752 x1) (hz : zr 0 262144 z) : zpc (fX12_isHeader μ x1) (fun r => r.1 = μ ∧ ((zHp z B x1.toNatClampNeg ∧ r.2 = 1) ∨ (¬ zHp z B x1.toNatClampNeg ∧ r.2 = 0))) := by
  unfold fX12_isHeader
  have c6 : (16 : Int32).toInt = 16 := rfl
  have t : (x1 + 16).toInt = x1.toInt + (16 : Int32).toInt := z_tadd h1 (zr_c (lo := 16) (hi := 16) (by decide)) (by decide)
  have k1 := z_clamp h1.1
  rw [show zgi μ 0 5 = z from hm.1]
  refine zpc_if (fun q => ?_) (fun q => ?_)
  · have q1 := Int32.le_iff_toInt_le.mp q
    refine zpc_mono (p_isH_15 hm h1.1 (by omega) hz.2 zfuel 0 (zr_c (by decide)) (fun i hi => ?_)) (fun r p => ⟨p.1, ?_⟩)
    · have : (0 : Int32).toInt = 0 := rfl
      exfalso
      omega
    · rcases p.2 with ⟨a, b⟩ | ⟨a, b⟩
      · exact Or.inl ⟨⟨by omega, a⟩, b⟩
      · exact Or.inr ⟨fun m => a m.2, b⟩
  · have q1 := Int32.lt_iff_toInt_lt.mp (z_nle q)
    exact zpc_ck (zpc_some ⟨rfl, Or.inr ⟨fun m => by have := m.1; omega, rfl⟩⟩)
/-- behind the three places -/
theorem d_142e {μ : zSt} (hz : zr 0 262144 z) (hB : ∀ j, zr 0 255 (B j)) (hm : zMid z bk B μ) (hh : zIsH z B (μ.1 0 8)) {n : Nat} : zpc (fX12_load_142 n μ (2 * 32752 + 16)) (zFin z bk B) := by
  cases n with
  | zero => exact zpc_none
  | succ n =>
    show zpc (fX12_load_142_body (fX12_load_142 n) μ (2 * 32752 + 16)) _
    unfold fX12_load_142_body
    have g5 : zgi μ 0 5 = z := hm.1
    have c : (49152 : Int32).toInt = 49152 := rfl
    rw [g5]
    refine zpc_if (fun _ => zpc_if (fun q => ?_) (fun q => ?_)) (fun q => absurd (by decide) q)
    · refine d_192 hz hB hm hh (fun r => ?_)
      have := Int32.lt_iff_toInt_lt.mp r
      have := Int32.le_iff_toInt_le.mp q
      exfalso
      omega
    · have q1 := Int32.lt_iff_toInt_lt.mp (z_nle q)
      refine zpc_bi (p_bytesAt (x := 32742) (zr_c (by decide))) (fun μ1 v p => ?_)
      obtain ⟨p1, p2⟩ := p
      have p1 : μ1 = μ := p1
      subst p1
      have p2 : v = zWd (zMb μ1) 32742 := p2
      rw [hm.wd (by omega)] at p2
      exact d_192 hz hB hm hh (fun _ => p2)
/-- one place -/
theorem d_142s {μ : zSt} {x3 : Int32} (hm : zMid z bk B μ) (h3 : zr 0 32752 x3) (hz : zr 0 262144 z) (nl : ¬ 32768 ≤ x3) {n : Nat} {Q : zSt × Int32 → Prop} (k : ∀ μ1, zMid z bk B μ1 → ((zHp z B x3.toNatClampNeg ∧ μ1.1 0 8 = x3) ∨ (¬ zHp z B x3.toNatClampNeg ∧ μ1.1 0 8 = μ.1 0 8)) → zpc (fX12_load_142 n μ1 (2 * x3 + 16)) Q) : zpc (fX12_load_142 (n + 1) μ x3) Q := by
  show zpc (fX12_load_142_body (fX12_load_142 n) μ x3) _
  unfold fX12_load_142_body fX12_load_161
  refine zpc_if (fun q => absurd q nl) (fun _ => zpc_bi (p_isH hm h3 hz) (fun μ1 v p => ?_))
  obtain ⟨p1, p2⟩ := p
  have p1 : μ1 = μ := p1
  subst p1
  refine zpc_if (fun q => zpc_bv (fun w e => ?_)) (fun q => zpc_bv (fun μ2 e2 => zpc_bv (fun w e => ?_)))
  · subst e
    rcases p2 with ⟨_, b⟩ | ⟨a, b⟩
    · have b : v = 1 := b
      rw [b] at q
      exact absurd q (by decide)
    · exact k _ hm (Or.inr ⟨a, rfl⟩)
  · subst e
    rcases p2 with ⟨a, b⟩ | ⟨a, b⟩
    · exact k _ (hm.w e2 (by decide)) (Or.inl ⟨a, by rw [e2]; exact zsi_ej⟩)
    · exact absurd b q
theorem d_142 {μ : zSt} (hz : zr 0 262144 z) (hB : ∀ j, zr 0 255 (B j)) (hm : zMid z bk B μ) (h8 : μ.1 0 8 = -1) : zpc (fX12_load_142 zfuel μ 8176) (zFin z bk B) := by
  obtain ⟨m, hf⟩ : ∃ m, zfuel = m + 1 + 1 + 1 := ⟨1999997, rfl⟩
  rw [hf]
  refine d_142s hm (zr_c (by decide)) hz (by decide) (fun μ1 m1 a1 => ?_)
  rw [show (2 : Int32) * 8176 + 16 = 16368 by decide]
  refine d_142s m1 (zr_c (by decide)) hz (by decide) (fun μ2 m2 a2 => ?_)
  rw [show (2 : Int32) * 16368 + 16 = 32752 by decide]
  refine d_142s m2 (zr_c (by decide)) hz (by decide) (fun μ3 m3 a3 => ?_)
  refine d_142e hz hB m3 ?_
  rcases a3 with ⟨b3, e3⟩ | ⟨b3, e3⟩
  · exact Or.inl ⟨b3, e3⟩
  · rcases a2 with ⟨b2, e2⟩ | ⟨b2, e2⟩
    · exact Or.inr (Or.inl ⟨b3, b2, e3.trans e2⟩)
    · rcases a1 with ⟨b1, e1⟩ | ⟨b1, e1⟩
      · exact Or.inr (Or.inr (Or.inl ⟨b3, b2, b1, (e3.trans e2).trans e1⟩))
      · exact Or.inr (Or.inr (Or.inr ⟨b3, b2, b1, ((e3.trans e2).trans e1).trans h8⟩))
/-- the copy -/
theorem d_89 {T : Nat → Int32} {x1 : Int32} (hz : zr 0 262144 z) (hB : ∀ j, zr 0 255 (B j)) (h1 : zr 0 512 x1) (hT : ∀ j : Nat, (j : Int) < z.toInt → T (x1.toNatClampNeg + j) &&& 255 = B j) (hk : z.toInt ≤ (16384 * bk).toInt) : ∀ (n : Nat) (μ : zSt) (x3 : Int32), zr 0 262144 x3 → μ.1 1 = T → μ.1 0 5 = z → μ.1 0 6 = bk → (∀ j : Nat, (j : Int) < x3.toInt → (j : Int) < z.toInt → μ.1 2 j &&& 255 = B j) → zpc (fX12_load_89 n μ x1 x3) (zFin z bk B) := by
  intro n
  induction n with
  | zero => intro μ x3 _ _ _ _ _; exact zpc_none
  | succ n ih =>
    intro μ x3 h3 e1 e5 e6 hc
    show zpc (fX12_load_89_body (fX12_load_89 n) μ x1 x3) _
    unfold fX12_load_89_body fX12_load_126
    have b0 := h3.1
    have b9 := h3.2
    have z2 := hz.2
    have k3 := z_clamp b0
    rw [show zgi μ 0 6 = bk from e6, show zgi μ 0 5 = z from e5]
    refine zpc_if (fun q => zpc_bv (fun μ1 m1 => ?_)) (fun q => ?_)
    · have q1 := Int32.le_iff_toInt_le.mp q
      refine d_142 hz hB ⟨?_, ?_, fun j hj => ?_⟩ ?_
      · rw [m1, zsi_nj (by decide)]; exact e5
      · rw [m1, zsi_nj (by decide)]; exact e6
      · rw [m1, zsi_ne (by decide)]; exact hc j (by omega) hj
      · rw [m1]; exact zsi_ej
    · have c1 : (1 : Int32).toInt = 1 := rfl
      have go : ∀ (y : Int32) (μ1 : zSt), x3.toInt < 262144 → μ1 = zsi μ 2 x3.toNatClampNeg (vp_nar .byte y) → (x3.toInt < z.toInt → y &&& 255 = B x3.toNatClampNeg) → zpc (fX12_load_89 n μ1 x1 (x3 + 1)) (zFin z bk B) := fun y μ1 hx m1 hy => by
        have t : (x3 + 1).toInt = x3.toInt + (1 : Int32).toInt := z_tadd h3 (zr_c (lo := 1) (hi := 1) (by decide)) (by decide)
        refine ih μ1 (x3 + 1) ⟨by omega, by omega⟩ ?_ ?_ ?_ (fun j hj hjz => ?_)
        · rw [m1, zsi_ne (by decide)]; exact e1
        · rw [m1, zsi_ne (by decide)]; exact e5
        · rw [m1, zsi_ne (by decide)]; exact e6
        · rw [m1]
          by_cases qj : j = x3.toNatClampNeg
          · rw [qj, zsi_ej, z_nar]
            exact hy (by omega)
          · rw [zsi_nj qj]
            exact hc j (by omega) hjz
      have inr : ∀ {w : Option (zSt × Int32)} {Q : zSt × Int32 → Prop}, (x3.toInt < 262144 → zpc w Q) → zpc (zck (zin x3 262144) w) Q := fun {w Q} h => by
        by_cases r : x3.toInt < 262144
        · exact zpc_ck (h r)
        · have e : zin x3 262144 = false := by
            have l : 262144 ≤ x3.toNatClampNeg := by omega
            show (!(decide (x3 < 0) || decide (262144 ≤ x3.toNatClampNeg))) = false
            rw [decide_eq_true l, Bool.or_true]
            rfl
          rw [e]
          exact zpc_none
      refine zpc_if (fun r => inr (fun hx => zpc_bv (fun μ1 m1 => zpc_bv (fun v e => ?_)))) (fun r => zpc_ck (inr (fun hx => zpc_bv (fun μ1 m1 => zpc_bv (fun v e => ?_)))))
      · subst e
        have r1 := Int32.le_iff_toInt_le.mp r
        exact go _ μ1 hx m1 (fun h => by exfalso; omega)
      · subst e
        have r1 := Int32.lt_iff_toInt_lt.mp (z_nle r)
        have t : (x1 + x3).toInt = x1.toInt + x3.toInt := z_tadd h1 h3 (by decide)
        have b1 := h1.1
        have k1 := z_clamp b1
        have ks := z_clamp (x := x1 + x3) (by omega)
        refine go _ μ1 hx m1 (fun h => ?_)
        show μ.1 1 (x1 + x3).toNatClampNeg &&& 255 = _
        rw [e1, show (x1 + x3).toNatClampNeg = x1.toNatClampNeg + x3.toNatClampNeg by omega]
        exact hT _ (by omega)
end ZLOAD2
end ZJN7
section ZJN8
/-! load, both sides -/
noncomputable def zBk (z : Int32) : Int32 := (z + 16383) / 16384
theorem z_bank {z : Int32} (h : zr 8192 262144 z) : z.toInt ≤ (16384 * zBk z).toInt ∧ ((z + 16384) - 1) / 16384 = zBk z := by
  have c3 : (16383 : Int32).toInt = 16383 := rfl
  have c4 : (16384 : Int32).toInt = 16384 := rfl
  have c1 : (1 : Int32).toInt = 1 := rfl
  have r3 : zr 16383 16383 (16383 : Int32) := zr_c (by decide)
  have r4 : zr 16384 16384 (16384 : Int32) := zr_c (by decide)
  have r1 : zr 1 1 (1 : Int32) := zr_c (by decide)
  have t1 := z_tadd h r3 (by decide)
  have q1 := zr_add (lo := 24575) (hi := 278527) h r3 (by decide)
  have d1 := z_tdiv (y := (16384 : Int32)) 16384 rfl q1 (by decide)
  have qd : zr 1 16 (zBk z) := zr_div (lo := 1) (hi := 16) 16384 (by decide) q1 (by decide)
  have m1 := z_tmul r4 qd (by decide)
  have t2 := z_tadd h r4 (by decide)
  have q2 := zr_add (lo := 24576) (hi := 278528) h r4 (by decide)
  have t3 := z_tsub q2 r1 (by decide)
  have e : (z + 16384) - 1 = z + 16383 := Int32.toInt_inj.mp (by rw [t3, t2, t1, c3, c4, c1]; omega)
  refine ⟨?_, by rw [e]; rfl⟩
  have d2 : (zBk z).toInt = (z + 16383).toInt / 16384 := d1
  rw [m1, d2, t1, c4, c3]
  omega
/-- the class's take of the tape -/
noncomputable def zTake (σ : zSt) (s0 : Int32) (r : zSt × Int32) : Prop := (¬ r.2 = 0 ∧ (∀ j, ¬ j = 2 → r.1.1 1 j = σ.1 1 j) ∧ ∀ w, r.1.1 (ztp w) = σ.1 (ztp w)) ∨ (r.2 = 0 ∧ (r.1.1 1 0 = σ.1 1 1 ∧ r.1.1 1 1 = σ.1 1 0 ∧ r.1.1 1 3 = s0 ∧ r.1.1 1 4 = zgi σ 1 2 - s0 ∧ r.1.1 1 5 = zBk (zgi σ 1 2 - s0)) ∧ (∀ w, r.1.1 (ztp w) = σ.1 (ztp w)) ∧ zIsH (zgi σ 1 2 - s0) (fun j => σ.1 (ztp (σ.1 1 0)) (s0.toNatClampNeg + j)) (r.1.1 1 7) ∧ zIsP (zgi σ 1 2 - s0) (fun j => σ.1 (ztp (σ.1 1 0)) (s0.toNatClampNeg + j)) (r.1.1 1 7) (r.1.1 1 6) ∧ zr 8192 262144 (zgi σ 1 2 - s0))
theorem p_take21 {σ : zSt} {s0 : Int32} (hr : zr 0 262656 (zgi σ 1 2)) (h0 : zr 0 512 s0) : zpc (fX2_takeTape_21 σ s0) (zTake σ s0) := by
  unfold fX2_takeTape_21
  refine zpc_bv (fun v1 e1 => zpc_bv (fun σ2 e2 => ?_))
  have c8 : (8192 : Int32).toInt = 8192 := rfl
  have rv : zr (-512) 262656 v1 := by rw [e1]; exact zr_sub (lo := -512) (hi := 262656) hr h0 (by decide)
  have k2 : ∀ j, ¬ j = 2 → σ2.1 1 j = σ.1 1 j := fun j hj => by rw [e2]; exact zsi_nj hj
  have w2 : ∀ w, σ2.1 (ztp w) = σ.1 (ztp w) := fun w => by rw [e2]; exact zsi_ne (fun e => z_tp1 w e.symm)
  refine zpc_if (fun q5 => zpc_ck (zpc_if (fun q7 => ?_) (fun q7 => zpc_some (Or.inl ⟨(by decide : ¬ (2 : Int32) = 0), k2, w2⟩)))) (fun q5 => zpc_some (Or.inl ⟨(by decide : ¬ (1 : Int32) = 0), k2, w2⟩))
  have h6 := zc_ler (8192) q5 (zr_c (lo := 8192) (hi := 8192) (by decide)) rv (by decide)
  have h8 := zc_eql (0) (0) q7 (zr_rem (lo := 0) (hi := 8191) 8192 (by decide) h6 (by decide)) (zr_c (lo := 0) (hi := 0) (by decide)) (by decide)
  have h9 := z_m8 h6 h8
  refine zpc_bv (fun σ3 e3 => zpc_bv (fun σ4 e4 => zpc_bv (fun σ5 e5 => zpc_bv (fun σ6 e6 => zpc_ck (zpc_bv (fun σ7 e7 => ?_))))))
  have w7 : ∀ w, σ7.1 (ztp w) = σ.1 (ztp w) := fun w => by
    have n : ¬ ztp w = 1 := fun e => z_tp1 w e.symm
    rw [e7, zsi_ne n, e6, zsi_ne n, e5, zsi_ne n, e4, zsi_ne n, e3, zsi_ne n]
    exact w2 w
  have a1 : σ7.1 1 1 = σ.1 1 0 := by
    rw [e7, zsi_nj (by decide), e6, zsi_nj (by decide), e5, zsi_nj (by decide), e4, zsi_nj (by decide), e3, zsi_ej]
    exact k2 0 (by decide)
  have a0 : σ7.1 1 0 = σ.1 1 1 := by
    rw [e7, zsi_nj (by decide), e6, zsi_nj (by decide), e5, zsi_nj (by decide), e4, zsi_ej]
    exact k2 1 (by decide)
  have a3 : σ7.1 1 3 = s0 := by rw [e7, zsi_nj (by decide), e6, zsi_nj (by decide), e5, zsi_ej]
  have a4 : σ7.1 1 4 = v1 := by rw [e7, zsi_nj (by decide), e6, zsi_ej]
  have a5 : σ7.1 1 5 = zBk v1 := by rw [e7, zsi_ej]; exact (z_bank h9).2
  have cb : zCb σ7 = fun j => σ.1 (ztp (σ.1 1 0)) (s0.toNatClampNeg + j) := by
    funext j
    unfold zCb
    rw [a1, a3, w7]
  have hb7 : zr 0 512 (σ7.1 1 3) := by rw [a3]; exact h0
  have hz7 : zr 0 262144 (σ7.1 1 4) := by rw [a4]; exact zr_w h9 (by decide)
  refine zpc_bi (p_header hb7 hz7) (fun σ8 v9 p => ?_)
  obtain ⟨p1, p2⟩ := p
  have p1 : σ8 = σ7 := p1
  subst p1
  have p2 : zIsH (σ8.1 1 4) (zCb σ8) v9 := p2
  rw [a4, cb] at p2
  refine zpc_bv (fun σ10 e10 => ?_)
  have n10 : ∀ j, ¬ j = 7 → σ10.1 1 j = σ8.1 1 j := fun j hj => by rw [e10]; exact zsi_nj hj
  have w10 : ∀ w, σ10.1 (ztp w) = σ.1 (ztp w) := fun w => by rw [e10, zsi_ne (fun e => z_tp1 w e.symm)]; exact w7 w
  have a7 : σ10.1 1 7 = v9 := by rw [e10]; exact zsi_ej
  have cb2 : zCb σ10 = fun j => σ.1 (ztp (σ.1 1 0)) (s0.toNatClampNeg + j) := by
    funext j
    unfold zCb
    rw [n10 1 (by decide), n10 3 (by decide), a1, a3, w10]
  refine zpc_bi (p_paging (by rw [n10 3 (by decide)]; exact hb7) (by rw [n10 4 (by decide)]; exact hz7)) (fun σ11 v12 p => ?_)
  obtain ⟨r1, r2⟩ := p
  have r1 : σ11 = σ10 := r1
  subst r1
  have r2 : zIsP (σ11.1 1 4) (zCb σ11) (σ11.1 1 7) v12 := r2
  rw [n10 4 (by decide), a4, cb2, a7] at r2
  refine zpc_bv (fun σ13 e13 => zpc_some (Or.inr ⟨rfl, ?_⟩))
  have n13 : ∀ j, ¬ j = 6 → σ13.1 1 j = σ11.1 1 j := fun j hj => by rw [e13]; exact zsi_nj hj
  have b7 : σ13.1 1 7 = v9 := (n13 7 (by decide)).trans a7
  have b6 : σ13.1 1 6 = v12 := by rw [e13]; exact zsi_ej
  refine ⟨⟨((n13 0 (by decide)).trans (n10 0 (by decide))).trans a0, ((n13 1 (by decide)).trans (n10 1 (by decide))).trans a1, ((n13 3 (by decide)).trans (n10 3 (by decide))).trans a3, (((n13 4 (by decide)).trans (n10 4 (by decide))).trans a4).trans e1, (((n13 5 (by decide)).trans (n10 5 (by decide))).trans a5).trans (by rw [e1])⟩, fun w => ?_, ?_, ?_, ?_⟩
  · show σ13.1 (ztp w) = _
    rw [e13, zsi_ne (fun e => z_tp1 w e.symm)]
    exact w10 w
  · show zIsH _ _ (σ13.1 1 7)
    rw [b7, ← e1]
    exact p2
  · show zIsP _ _ (σ13.1 1 7) (σ13.1 1 6)
    rw [b7, b6, ← e1]
    exact r2
  · rw [← e1]
    exact h9
/-- the reference's load -/
noncomputable def zLdM (μ : zSt) (s0 : Int32) (r : zSt × Int32) : Prop := (¬ r.2 = 0 ∧ r.1.1 1 = μ.1 1 ∧ r.1.1 2 = μ.1 2 ∧ ∀ j, j ∈ [5, 6, 7, 8, 9] → r.1.1 0 j = μ.1 0 j) ∨ (r.2 = 0 ∧ zFin (zgi μ 0 2 - s0) (zBk (zgi μ 0 2 - s0)) (fun j => μ.1 1 (s0.toNatClampNeg + j) &&& 255) r)
theorem p_load26 {μ : zSt} {s0 : Int32} (hr : zr 0 262656 (zgi μ 0 2)) (h0 : zr 0 512 s0) : zpc (fX12_load_26 μ s0) (zLdM μ s0) := by
  unfold fX12_load_26
  refine zpc_bv (fun v e1 => zpc_bv (fun μ2 e2 => ?_))
  have rv : zr (-512) 262656 v := by rw [e1]; exact zr_sub (lo := -512) (hi := 262656) hr h0 (by decide)
  have err : ∀ x : Int32, ¬ x = 0 → zLdM μ s0 (μ2, x) := fun x hx => Or.inl ⟨hx, by rw [e2]; exact zsi_ne (by decide), by rw [e2]; exact zsi_ne (by decide), fun j hj => by rw [e2]; exact zsi_nj (fun r => by subst r; revert hj; decide)⟩
  refine zpc_if (fun q5 => zpc_ck (zpc_if (fun q7 => zpc_if (fun q9 => ?_) (fun _ => zpc_some (err 3 (by decide)))) (fun _ => zpc_some (err 2 (by decide))))) (fun _ => zpc_some (err 1 (by decide)))
  have h6 := zc_ler (8192) q5 (zr_c (lo := 8192) (hi := 8192) (by decide)) rv (by decide)
  have h9 := zc_lel (262144) q9 h6 (zr_c (lo := 262144) (hi := 262144) (by decide)) (by decide)
  refine zpc_bv (fun μ3 e3 => zpc_ck (zpc_bv (fun μ4 e4 => ?_)))
  have t3 : zgi μ3 0 5 = v := by rw [e3]; exact zsi_ej
  rw [t3] at e4
  have a5 : μ4.1 0 5 = v := by rw [e4, zsi_nj (by decide)]; exact t3
  have a6 : μ4.1 0 6 = zBk v := by rw [e4]; exact zsi_ej
  have a1 : μ4.1 1 = μ.1 1 := by rw [e4, zsi_ne (by decide), e3, zsi_ne (by decide), e2]; exact zsi_ne (by decide)
  have c0 : (0 : Int32).toInt = 0 := rfl
  refine zpc_mono (zpc_and (t_load_89 zfuel μ4 s0 0) (d_89 (z := v) (bk := zBk v) (B := fun j => μ.1 1 (s0.toNatClampNeg + j) &&& 255) (T := μ.1 1) (zr_w h9 (by decide)) (fun j => z_byte _) h0 (fun j _ => rfl) (z_bank h9).1 zfuel μ4 0 (zr_c (by decide)) a1 a5 a6 (fun j hj _ => by exfalso; omega))) (fun r p => Or.inr ⟨p.1.1, ?_⟩)
  rw [← e1]
  exact p.2
/-- both loads -/
theorem z2_load {σ μ : zSt} (h : zR6 σ μ) (hr : zr 0 262656 (zgi μ 0 2)) : zp2 (fX11_load σ ) (fX12_load μ ) (fun r r' => r.2 = r'.2 → zR6L 0 r.1 r'.1) := by
  have e12 : zgi σ 1 2 = zgi μ 0 2 := h.1
  have hrC : zr 0 262656 (zgi σ 1 2) := by rw [e12]; exact hr
  have hr1 := hr.1
  have hr2 := hr.2
  -- one offset for both
  obtain ⟨s0, hs0, hC, hM⟩ : ∃ s0, zr 0 512 s0 ∧ zpc (fX2_takeTape σ ) (zTake σ s0) ∧ ∀ μ1, zgi μ1 0 2 = zgi μ 0 2 → zpc (if (zrem (zgi μ1 0 2) 16384) = 512 then fX12_load_26 μ1 512 else fX12_load_26 μ1 0) (zLdM μ1 s0) := by
    unfold fX2_takeTape
    rw [e12]
    by_cases q : (zrem (zgi μ 0 2) 16384) = 512
    · refine ⟨512, zr_c (by decide), zpc_ck (zpc_if (fun _ => p_take21 hrC (zr_c (by decide))) (fun r => absurd q r)), fun μ1 e => ?_⟩
      rw [e]
      exact zpc_if (fun _ => p_load26 (by rw [e]; exact hr) (zr_c (by decide))) (fun r => absurd q r)
    · refine ⟨0, zr_c (by decide), zpc_ck (zpc_if (fun r => absurd r q) (fun _ => p_take21 hrC (zr_c (by decide)))), fun μ1 e => ?_⟩
      rw [e]
      exact zpc_if (fun r => absurd r q) (fun _ => p_load26 (by rw [e]; exact hr) (zr_c (by decide)))
  -- the class behind it
  have PC : zpc (fX11_load σ ) (zTake σ s0) := by
    unfold fX11_load fX11_load_28
    refine zpc_bi hC (fun σ1 v2 p => zpc_if (fun q => ?_) (fun _ => zpc_some p))
    have k1 : zKeC σ1 σ1 := ⟨rfl, rfl, rfl⟩
    refine zpc_bu (w_fX2_clearRam k1) (fun σ3 k3 => zpc_bu (w_fX11_clearAll k3) (fun σ4 k4 => zpc_ck (zpc_bs (zKeC.wi (k := 0) (j := 11) (v := 0) k4 (by decide)) (fun σ5 k5 => zpc_some ?_))))
    rcases p with ⟨p1, _⟩ | ⟨p1, ⟨a0, a1, a3, a4, a5⟩, w, p2, p3, p4⟩
    · exact absurd q p1
    · have r1 : σ5.1 1 = σ1.1 1 := k5.1
      refine Or.inr ⟨q, ⟨?_, ?_, ?_, ?_, ?_⟩, fun x => (k5.row x).trans (w x), ?_, ?_, p4⟩
      · show σ5.1 1 0 = _; rw [r1]; exact a0
      · show σ5.1 1 1 = _; rw [r1]; exact a1
      · show σ5.1 1 3 = _; rw [r1]; exact a3
      · show σ5.1 1 4 = _; rw [r1]; exact a4
      · show σ5.1 1 5 = _; rw [r1]; exact a5
      · show zIsH _ _ (σ5.1 1 7); rw [r1]; exact p2
      · show zIsP _ _ (σ5.1 1 7) (σ5.1 1 6); rw [r1]; exact p3
  have PM : zpc (fX12_load μ ) (zLdM μ s0) := by
    unfold fX12_load
    refine zpc_bv (fun μ1 e1 => zpc_ck ?_)
    have l := z_c02 e1
    have r1 : μ1.1 1 = μ.1 1 := by rw [e1]; exact zsi_ne (by decide)
    have r2 : μ1.1 2 = μ.1 2 := by rw [e1]; exact zsi_ne (by decide)
    refine zpc_mono (hM μ1 l) (fun r p => ?_)
    unfold zLdM at p ⊢
    rw [r1, r2, l] at p
    rcases p with ⟨p1, p2, p3, p4⟩ | p
    · exact Or.inl ⟨p1, p2, p3, fun j hj => (p4 j hj).trans (by rw [e1]; exact zsi_nj (fun r => by subst r; revert hj; decide))⟩
    · exact Or.inr p
  refine zp2_of PC PM (fun r r' p p' ev => ?_)
  obtain ⟨hL, hD, hCt⟩ := h.2
  rcases p with ⟨p1, p2, p3⟩ | ⟨p1, ⟨a0, a1, a3, a4, a5⟩, w, ph, pp, pz⟩
  · rcases p' with ⟨_, q2, q3, q4⟩ | ⟨q1, _⟩
    · refine ⟨fun j hj => by exfalso; omega, ?_, ?_⟩
      · rw [p2 0 (by decide), p2 1 (by decide)]; exact hD
      · exact hCt.keep (fun j hj => p2 j (fun e => by subst e; revert hj; decide)) (p3 _) q4 q3
    · exact absurd (ev.trans q1) p1
  · rcases p' with ⟨q1, _⟩ | ⟨_, ⟨f5, f6, fb⟩, fh, fp, fs⟩
    · exact absurd (ev.symm.trans p1) q1
    · rw [e12] at a4 a5 ph pp pz
      have z0 := pz.1
      have k0 := z_clamp hs0.1
      have ts : (zgi μ 0 2 - s0).toInt = (zgi μ 0 2).toInt - s0.toInt := z_tsub hr hs0 (by decide)
      -- bytes
      have eb : ∀ j : Nat, (j : Int) < (zgi μ 0 2 - s0).toInt → σ.1 (ztp (σ.1 1 0)) (s0.toNatClampNeg + j) = μ.1 1 (s0.toNatClampNeg + j) &&& 255 := fun j hj => hL _ (by have : (zgi μ 0 2).toInt = (μ.1 0 2).toInt := rfl; omega)
      have ph2 := zIsH.cong eb ph
      have hh : r.1.1 1 7 = r'.1.1 0 8 := ph2.one fh
      have pp2 := zIsP.cong eb pp
      rw [hh] at pp2
      have hp : r.1.1 1 6 = r'.1.1 0 7 := pp2.one fp
      obtain ⟨l1, l2⟩ := fh.lt (by omega)
      refine ⟨fun j hj => by exfalso; omega, ?_, ?_⟩
      · rw [a0, a1]; exact fun e => hD e.symm
      · refine ⟨a4.trans f5.symm, a5.trans f6.symm, hp, hh, fun j hj => ?_, fun hq => ?_⟩
        · rw [f5] at hj
          rw [a1, a3, w, eb j hj, fb j hj]
        · rw [f5]
          have l3 := l2 hq
          refine ⟨l3, ?_⟩
          rw [fs hq]
          exact zSum_cong (fun j hj => (fb j hj).symm) hq l3
end ZJN8
section ZJN9
theorem zok_biE {α : Type} {o : Option (zSt × Int32)} {f : zSt → Int32 → Option α} {Q : zSt × Int32 → Prop} {P : α → Prop} (h : zok o Q) (k : ∀ σ v, o = some (σ, v) → Q (σ, v) → zok (f σ v) P) : zok (zbi o f) P := by
  obtain ⟨a, e, q⟩ := h
  subst e
  exact k a.1 a.2 rfl q
theorem zok_bllE {α : Type} {o : Option (zSt × Int64)} {f : zSt → Int64 → Option α} {Q : zSt × Int64 → Prop} {P : α → Prop} (h : zok o Q) (k : ∀ σ v, o = some (σ, v) → Q (σ, v) → zok (f σ v) P) : zok (zbl o f) P := by
  obtain ⟨a, e, q⟩ := h
  subst e
  exact k a.1 a.2 rfl q
theorem zok_buE {α : Type} {o : Option zSt} {f : zSt → Option α} {Q : zSt → Prop} {P : α → Prop} (h : zok o Q) (k : ∀ σ, o = some σ → Q σ → zok (f σ) P) : zok (zbu o f) P := by
  obtain ⟨a, e, q⟩ := h
  subst e
  exact k a rfl q
theorem zok_bhE {α : Type} {q : Option (zHs × Int32)} {f : (Nat → Int64) → zSt → Int32 → Option α} {Q : zHs × Int32 → Prop} {P : α → Prop} (h : zok q Q) (k : ∀ o σ v, q = some ((o, σ), v) → Q ((o, σ), v) → zok (f o σ v) P) : zok (zbh q f) P := by
  obtain ⟨a, e, r⟩ := h
  subst e
  exact k a.1.1 a.1.2 a.2 rfl r
theorem zh2_st {S : Type} {x : S} {k : Nat} {r : S × Int32} (h : zh2 x k = some r) : r.1 = x := by
  unfold zh2 at h
  split at h
  · cases h; rfl
  · split at h
    · cases h; rfl
    · cases h
theorem zh1_st {S : Type} {n : Nat} {x : S} {k : Nat} {r : S × Int32} (h : zh1 n x k = some r) : r.1 = x := by
  unfold zh1 at h
  split at h
  · cases h; rfl
  · cases h
theorem zp2_hi {β : Type} {o : Nat → Int64} {t : zHs → Nat → Option (zHs × Int32)} {q : Option zRi} {p : Option β} {I : zSt → β → Prop} (ht : ∀ (x : zHs) (k : Nat) (r : zHs × Int32), t x k = some r → r.1 = x) (h : zp2 q p (fun r r' => I (zRis r) r')) : zp2 (zbr q (zhi o t)) p (fun r r' => I r.1.2 r') := by
  intro a b ea eb
  cases q with
  | none => cases ea
  | some r =>
    have i := h r b rfl eb
    have ea : zhi o t r = some a := ea
    rcases r with x | x
    · have ea : some ((vp_updL o 0 x.2.toInt64, x.1), (0 : Int32)) = some a := ea
      cases ea
      exact i
    · have ea : t (o, x.1) x.2 = some a := ea
      have e := ht _ _ _ ea
      rw [e]
      exact i
theorem zp2_hl {β : Type} {o : Nat → Int64} {t : zHs → Nat → Option (zHs × Int32)} {q : Option zRl} {p : Option β} {I : zSt → β → Prop} (ht : ∀ (x : zHs) (k : Nat) (r : zHs × Int32), t x k = some r → r.1 = x) (h : zp2 q p (fun r r' => I (zRls r) r')) : zp2 (zbr q (zhl o t)) p (fun r r' => I r.1.2 r') := by
  intro a b ea eb
  cases q with
  | none => cases ea
  | some r =>
    have i := h r b rfl eb
    have ea : zhl o t r = some a := ea
    rcases r with x | x
    · have ea : some ((vp_updL o 0 x.2, x.1), (0 : Int32)) = some a := ea
      cases ea
      exact i
    · have ea : t (o, x.1) x.2 = some a := ea
      have e := ht _ _ _ ea
      rw [e]
      exact i
theorem zp2_hu {β : Type} {t : zSt → Nat → Option (zSt × Int32)} {q : Option zRu} {p : Option β} {I : zSt → β → Prop} (ht : ∀ (x : zSt) (k : Nat) (r : zSt × Int32), t x k = some r → r.1 = x) (h : zp2 q p (fun r r' => I (zRus r) r')) : zp2 (zbr q (zhu t)) p (fun r r' => I r.1 r') := by
  intro a b ea eb
  cases q with
  | none => cases ea
  | some r =>
    have i := h r b rfl eb
    have ea : zhu t r = some a := ea
    rcases r with x | x
    · have ea : some (x, (0 : Int32)) = some a := ea
      cases ea
      exact i
    · have ea : t x.1 x.2 = some a := ea
      have e := ht _ _ _ ea
      rw [e]
      exact i
theorem zKeC_rfl {σ : zSt} : zKeC σ σ := ⟨rfl, rfl, rfl⟩
theorem zKeM_rfl {μ : zSt} : zKeM μ μ := ⟨rfl, rfl, fun _ _ => rfl⟩
section ZR6
variable {K n k s k' n' s' : Int} {σ μ : zSt} {o : Nat → Int64}
theorem zRM.len (h : zRM K n k s μ) : zr 0 262656 (zgi μ 0 2) ∧ (zgi μ 0 2).toInt = n := by
  obtain ⟨c, G, i, a, b, e0, e1, e2⟩ := h
  exact ⟨rM_0 i.sg 2 (by decide), (i.at 0 (by decide)).trans e0⟩
theorem zRC.len (h : zRC n k s σ) : (zgi σ 1 2).toInt = n ∧ zr 0 512 (σ.1 1 3) ∧ zr 0 262144 (σ.1 1 4) := by
  obtain ⟨H, i, e0, e1, e2⟩ := h
  exact ⟨Eq.trans (i.fz 0 (1, 2) rfl) e0, rC_1 i.sg 3 (by decide), rC_2 i.sg 4 (by decide)⟩
theorem zR6.ofL (a : zRM K n k s μ) (b : zRC n k' s' σ) (h : zR6L n σ μ) : zR6 σ μ := by
  have e : σ.1 1 2 = μ.1 0 2 := Int32.toInt_inj.mp (Eq.trans b.len.1 a.len.2.symm)
  refine ⟨e, ?_⟩
  rw [show (μ.1 0 2).toInt = n from a.len.2]
  exact h
end ZR6
theorem z_fresh6 {k : Int32} {σN4 σN5 σN9 σ1 : zSt} {σN6 : Int32 → zSt} {c : Int32} (e : fX12_anew (zsi (zsi (zsi (zsi (zsi zS0 0 8 (-1)) 0 3 c) 3 44 0) 3 45 1) 3 46 1) = some σ1) : zR6 (zC1 k σN4 σN5 σN6 σN9) σ1 := by
  have w := w_fX12_anew zKeM_rfl σ1 e
  obtain ⟨w1, w2, w3⟩ := w
  have m1 : ∀ j, σ1.1 1 j = 0 := fun j => by rw [w1]; rfl
  have a2 : σ1.1 0 2 = 0 := (w3 2 (by decide)).trans rfl
  have a5 : σ1.1 0 5 = 0 := (w3 5 (by decide)).trans rfl
  have a6 : σ1.1 0 6 = 0 := (w3 6 (by decide)).trans rfl
  have a7 : σ1.1 0 7 = 0 := (w3 7 (by decide)).trans rfl
  have a8 : σ1.1 0 8 = -1 := (w3 8 (by decide)).trans rfl
  have c0 : (0 : Int32).toInt = 0 := rfl
  have c1 : (-1 : Int32).toInt = -1 := rfl
  refine ⟨by rw [a2]; rfl, fun j hj => ?_, ?_, ?_⟩
  · rw [a2, c0] at hj
    exfalso
    omega
  · show ¬ ztp (0 : Int32) = ztp (1 : Int32)
    decide
  · refine ⟨by rw [a5]; rfl, by rw [a6]; rfl, by rw [a7]; rfl, by rw [a8]; rfl, fun j hj => ?_, fun hj => ?_⟩
    · rw [a5, c0] at hj
      exfalso
      omega
    · rw [a8, c1] at hj
      exfalso
      omega
/-! masks and shifts as remainders and quotients -/
theorem z_mask {x m : Int32} {k : Nat} (hx : 0 ≤ x.toInt) (hm : m.toBitVec.toNat = 2 ^ k - 1) (hk : k < 31) : (x &&& m).toInt = x.toInt % ((2 ^ k : Nat) : Int) := by
  have nx := z_tN hx
  have p : 2 ^ k < 2147483648 := by
    have : (2 : Nat) ^ k ≤ 2 ^ 30 := Nat.pow_le_pow_right (by decide) (by omega)
    omega
  have p0 : 0 < 2 ^ k := Nat.pow_pos (by decide)
  have e : (x &&& m).toBitVec.toNat = x.toBitVec.toNat % 2 ^ k := by rw [Int32.toBitVec_and, BitVec.toNat_and, hm, Nat.and_two_pow_sub_one_eq_mod]
  have l := Nat.mod_lt x.toBitVec.toNat p0
  rw [z_Nt e (by omega), ← nx]
  exact Int.natCast_emod _ _
theorem z_quo {x s : Int32} {k : Nat} (hx : 0 ≤ x.toInt) (hs : (s.toBitVec.smod 32).toNat = k) : (x >>> s).toInt = x.toInt / ((2 ^ k : Nat) : Int) := by
  have e : (x >>> s).toBitVec = x.toBitVec.sshiftRight (s.toBitVec.smod 32).toNat := rfl
  have e2 : (x >>> s).toInt = ((x >>> s).toBitVec).toInt := rfl
  rw [e2, e, hs, BitVec.toInt_sshiftRight, Int.shiftRight_eq_div_pow]
  rfl
/-! memory of both sides -/
noncomputable def zFil (μ : zSt) : Prop := ∀ j : Nat, (μ.1 0 5).toInt ≤ (j : Int) → (j : Int) < 16384 * (μ.1 0 6).toInt → μ.1 2 j &&& 255 = 255
noncomputable def zMe (σ μ : zSt) : Prop := (∀ j : Nat, j < 8192 → σ.1 15 j = μ.1 5 j &&& 255) ∧ (∀ j : Nat, j < 32768 → σ.1 17 j = μ.1 6 j &&& 255) ∧ (∀ j : Nat, j < 3 → σ.1 19 j = μ.1 3 (29 + j)) ∧ σ.1 19 3 = μ.1 3 32 ∧ zCart σ μ ∧ zFil μ
/-- ranges that reading wants -/
noncomputable def zMr (σ μ : zSt) : Prop := zr 0 512 (σ.1 1 3) ∧ zr 0 262144 (σ.1 1 4) ∧ zr 0 16 (μ.1 0 6) ∧ zr 0 3 (μ.1 0 7) ∧ ((μ.1 0 7).toInt = 0 ∨ 1 ≤ (μ.1 0 6).toInt) ∧ (∀ j : Nat, 29 ≤ j → j ≤ 32 → zr 0 255 (μ.1 3 j))
theorem z_16 {v : Int32} (h : 0 ≤ v.toInt) : (v &&& 16383).toInt = v.toInt % 16384 := z_mask (k := 14) h rfl (by decide)
theorem z_8 {v : Int32} (h : 0 ≤ v.toInt) : (v &&& 8191).toInt = v.toInt % 8192 := z_mask (k := 13) h rfl (by decide)
theorem z2_bank {σ μ : zSt} {v b : Int32} (h : zMe σ μ) (hr : zMr σ μ) (hv : zr 0 49151 v) (hb : zr 0 255 b) (hp : 1 ≤ (μ.1 0 6).toInt) : zp2 (fX2_read_126 σ v b) (fX12_ofBank μ b v) (fun r r' => r.1 = σ ∧ r'.1 = μ ∧ r.2 = r'.2) := by
  obtain ⟨_, _, _, _, hc, hf⟩ := h
  obtain ⟨r3, r4, r6, r7, _, _⟩ := hr
  obtain ⟨c4, c5, c6, c7, cb, _⟩ := hc
  unfold fX2_read_126 fX12_ofBank fX2_read_144 fX2_read_169
  have v0 := hv.1
  have v1 := hv.2
  have g5 : zgi σ 1 5 = μ.1 0 6 := c5
  have b6 := r6.2
  have tr := z_trem (y := μ.1 0 6) (μ.1 0 6).toInt rfl hb ⟨by decide, by omega⟩
  have m0 := Int.emod_nonneg b.toInt (b := (μ.1 0 6).toInt) (by omega)
  have m1 := Int.emod_lt_of_pos b.toInt (b := (μ.1 0 6).toInt) (by omega)
  have rr : zr 0 15 (zrem b (μ.1 0 6)) := ⟨by omega, by omega⟩
  have k4 : (16384 : Int32).toInt = 16384 := rfl
  have q4 : zr 16384 16384 (16384 : Int32) := zr_c (by decide)
  have t1 := z_tmul rr q4 (by decide)
  have t2 := z_tmul q4 rr (by decide)
  have s1 := zr_mul (lo := 0) (hi := 245760) rr q4 (by decide)
  have s2 := zr_mul (lo := 0) (hi := 245760) q4 rr (by decide)
  have e16 := z_16 v0
  have n0 := Int.emod_nonneg v.toInt (b := 16384) (by decide)
  have n1 := Int.emod_lt_of_pos v.toInt (b := 16384) (by decide)
  have ra : zr 0 16383 (v &&& 16383) := ⟨by omega, by omega⟩
  have t3 := z_tadd s1 ra (by decide)
  have tv := z_trem (y := (16384 : Int32)) 16384 rfl hv (by decide)
  have rb : zr 0 16383 (zrem v 16384) := ⟨by omega, by omega⟩
  have t4 := z_tadd s2 rb (by decide)
  have same : ((zrem b (μ.1 0 6)) * 16384) + (v &&& 16383) = (16384 * (zrem b (μ.1 0 6))) + (zrem v 16384) := Int32.toInt_inj.mp (by rw [t3, t4, t1, t2, e16, tv, k4]; omega)
  have pb : ((16384 * (zrem b (μ.1 0 6))) + (zrem v 16384)).toInt < 16384 * (μ.1 0 6).toInt := by
    rw [t4, t2, tv, tr, k4]
    have : 16384 * (b.toInt % (μ.1 0 6).toInt) ≤ 16384 * ((μ.1 0 6).toInt - 1) := Int.mul_le_mul_of_nonneg_left (by omega) (by decide)
    omega
  have p0 : 0 ≤ ((16384 * (zrem b (μ.1 0 6))) + (zrem v 16384)).toInt := by
    rw [t4, t2, tv, tr, k4]
    have : 0 ≤ 16384 * (b.toInt % (μ.1 0 6).toInt) := Int.mul_nonneg (by decide) m0
    omega
  rw [g5]
  refine zp2_ckl (zp2_bvl (fun p ep => zp2_ckr (zp2_ckr (zp2_ckr ?_))))
  rw [same] at ep
  subst ep
  have kp := z_clamp p0
  have g4 : zgi σ 1 4 = μ.1 0 5 := c4
  rw [g4]
  refine zp2_ifl (fun q => zp2_some ⟨rfl, rfl, ?_⟩) (fun q => zp2_ckl (zp2_some ⟨rfl, rfl, ?_⟩))
  · have q1 := Int32.le_iff_toInt_le.mp q
    exact (hf ((16384 * (zrem b (μ.1 0 6))) + (zrem v 16384)).toNatClampNeg (by omega) (by omega)).symm
  · have q1 := Int32.lt_iff_toInt_lt.mp (z_nle q)
    have b0 := r3.1
    have z4 := r4.2
    rw [c4] at z4
    have t5 : (σ.1 1 3 + ((16384 * (zrem b (μ.1 0 6))) + (zrem v 16384))).toInt = (σ.1 1 3).toInt + ((16384 * (zrem b (μ.1 0 6))) + (zrem v 16384)).toInt := z_tadd (c := 0) (d := 262144) r3 ⟨p0, by omega⟩ (by decide)
    have k5 := z_clamp (x := σ.1 1 3 + ((16384 * (zrem b (μ.1 0 6))) + (zrem v 16384))) (by omega)
    have k6 := z_clamp b0
    have e := cb ((16384 * (zrem b (μ.1 0 6))) + (zrem v 16384)).toNatClampNeg (by omega)
    show σ.1 (ztp (σ.1 1 1)) (σ.1 1 3 + ((16384 * (zrem b (μ.1 0 6))) + (zrem v 16384))).toNatClampNeg = μ.1 2 ((16384 * (zrem b (μ.1 0 6))) + (zrem v 16384)).toNatClampNeg &&& 255
    rw [show (σ.1 1 3 + ((16384 * (zrem b (μ.1 0 6))) + (zrem v 16384))).toNatClampNeg = (σ.1 1 3).toNatClampNeg + ((16384 * (zrem b (μ.1 0 6))) + (zrem v 16384)).toNatClampNeg by omega]
    exact e
end ZJN9
section ZJN10
theorem zp2_bir {α β : Type} {o : Option α} {p : Option (zSt × Int32)} {f : zSt → Int32 → Option β} {P : zSt × Int32 → Prop} {Q : α → β → Prop} (h : zpc p P) (k : ∀ σ v, P (σ, v) → zp2 o (f σ v) Q) : zp2 o (zbi p f) Q := by
  cases p with
  | none => exact zp2_nr
  | some a => exact k a.1 a.2 (h a rfl)
theorem zp2_bil {α β : Type} {o : Option (zSt × Int32)} {p : Option β} {f : zSt → Int32 → Option α} {P : zSt × Int32 → Prop} {Q : α → β → Prop} (h : zpc o P) (k : ∀ σ v, P (σ, v) → zp2 (f σ v) p Q) : zp2 (zbi o f) p Q := by
  cases o with
  | none => exact zp2_nl
  | some a => exact k a.1 a.2 (h a rfl)
/-- both call, and go on -/
theorem zp2_bii {α β : Type} {o p : Option (zSt × Int32)} {f : zSt → Int32 → Option α} {g : zSt → Int32 → Option β} {P : zSt × Int32 → zSt × Int32 → Prop} {Q : α → β → Prop} (h : zp2 o p P) (k : ∀ σ v μ w, P (σ, v) (μ, w) → zp2 (f σ v) (g μ w) Q) : zp2 (zbi o f) (zbi p g) Q := by
  cases o with
  | none => exact zp2_nl
  | some a =>
    cases p with
    | none => exact zp2_nr
    | some b => exact k a.1 a.2 b.1 b.2 (h a b rfl rfl)
theorem zp2_buu {α β : Type} {o p : Option zSt} {f : zSt → Option α} {g : zSt → Option β} {P : zSt → zSt → Prop} {Q : α → β → Prop} (h : zp2 o p P) (k : ∀ σ μ, P σ μ → zp2 (f σ) (g μ) Q) : zp2 (zbu o f) (zbu p g) Q := by
  cases o with
  | none => exact zp2_nl
  | some a =>
    cases p with
    | none => exact zp2_nr
    | some b => exact k a b (h a b rfl rfl)
theorem zp2_mono {α β : Type} {o : Option α} {p : Option β} {P Q : α → β → Prop} (h : zp2 o p P) (k : ∀ a b, P a b → Q a b) : zp2 o p Q := fun a b e f => k a b (h a b e f)
/-! the battery -/
noncomputable def zBt (μ : zSt) (v : Int32) : Prop := μ.1 0 7 = 1 ∧ ¬ (μ.1 3 32 &&& 8) = 0 ∧ 32768 ≤ v.toInt ∧ v.toInt < 49152
theorem p_isBat {μ : zSt} {v : Int32} : zpc (fX12_isBattery μ v) (fun r => r.1 = μ ∧ ((zBt μ v ∧ r.2 = 1) ∨ (¬ zBt μ v ∧ r.2 = 0))) := by
  unfold fX12_isBattery fX12_isBattery_37 fX12_isBattery_38
  have c3 : (32768 : Int32).toInt = 32768 := rfl
  have c4 : (49152 : Int32).toInt = 49152 := rfl
  have no : ¬ zBt μ v → zpc (zck (zbo 0) (some (μ, (0 : Int32)))) (fun r => r.1 = μ ∧ ((zBt μ v ∧ r.2 = 1) ∨ (¬ zBt μ v ∧ r.2 = 0))) := fun h => zpc_ck (zpc_some ⟨rfl, Or.inr ⟨h, rfl⟩⟩)
  refine zpc_if (fun q => zpc_ck (zpc_if (fun a => no (fun h => h.2.1 a)) (fun a => zpc_if (fun b => no (fun h => ?_)) (fun b => zpc_if (fun c => no (fun h => ?_)) (fun c => zpc_ck (zpc_some ⟨rfl, Or.inl ⟨⟨q, a, ?_, ?_⟩, rfl⟩⟩)))))) (fun q => no (fun h => q h.1))
  · have := Int32.lt_iff_toInt_lt.mp b; have := h.2.2.1; omega
  · have := Int32.le_iff_toInt_le.mp c; have := h.2.2.2; omega
  · have := Int32.le_iff_toInt_le.mp (z_nlt b); omega
  · have := Int32.lt_iff_toInt_lt.mp (z_nle c); omega
theorem p_batIn {σ : zSt} : zpc (fX2_batteryIsIn σ ) (fun r => r.1 = σ ∧ (((σ.1 1 6 = 1 ∧ ¬ (σ.1 19 3 &&& 8) = 0) ∧ r.2 = 1) ∨ (¬ (σ.1 1 6 = 1 ∧ ¬ (σ.1 19 3 &&& 8) = 0) ∧ r.2 = 0))) := by
  unfold fX2_batteryIsIn fX2_batteryIsIn_24 fX2_batteryIsIn_25
  exact zpc_if (fun q => zpc_ck (zpc_if (fun a => zpc_ck (zpc_some ⟨rfl, Or.inr ⟨fun h => h.2 a, rfl⟩⟩)) (fun a => zpc_ck (zpc_some ⟨rfl, Or.inl ⟨⟨q, a⟩, rfl⟩⟩)))) (fun q => zpc_ck (zpc_some ⟨rfl, Or.inr ⟨fun h => q h.1, rfl⟩⟩))
theorem z_k4 : ∀ i : Fin 256, ((Int32.ofNat i.val &&& 4 = 0 → ((Int32.ofNat i.val) >>> ((2 : Int32) &&& 31)) &&& 1 = 0) ∧ (¬ Int32.ofNat i.val &&& 4 = 0 → ((Int32.ofNat i.val) >>> ((2 : Int32) &&& 31)) &&& 1 = 1)) := by decide +kernel
theorem z_k4' {k : Int32} (h : zr 0 255 k) : (k &&& 4 = 0 → (k >>> ((2 : Int32) &&& 31)) &&& 1 = 0) ∧ (¬ k &&& 4 = 0 → (k >>> ((2 : Int32) &&& 31)) &&& 1 = 1) := by
  obtain ⟨h0, h1⟩ := h
  obtain ⟨i, hi⟩ : ∃ i : Nat, k.toInt = i := ⟨k.toInt.toNat, by omega⟩
  rw [z_ofN hi]
  exact z_k4 ⟨i, by omega⟩
/-- the place of a byte in the battery, on both sides -/
theorem z2_batAt {σ μ : zSt} {v : Int32} (h : zMe σ μ) (hr : zMr σ μ) (h0 : 32768 ≤ v.toInt) (h1 : v.toInt < 49152) : zp2 (fX2_batteryPlace σ v) (fX12_batteryAt μ v) (fun r r' => r.1 = σ ∧ r'.1 = μ ∧ r.2 = r'.2 ∧ zr 0 32767 r.2) := by
  obtain ⟨_, _, _, hk, _, _⟩ := h
  have rk := hr.2.2.2.2.2 32 (by decide) (by decide)
  have kk := z_k4' rk
  unfold fX2_batteryPlace fX12_batteryAt fX12_batteryAt_23
  have e16 := z_16 (v := v) (by omega)
  have g : zgi σ 19 (3 : Int32).toNatClampNeg = μ.1 3 32 := hk
  rw [g]
  have c8 : (32768 : Int32).toInt = 32768 := rfl
  have c6 : (16384 : Int32).toInt = 16384 := rfl
  have ts : (v - 32768).toInt = v.toInt - (32768 : Int32).toInt := z_tsub (a := 32768) (b := 49151) ⟨h0, by omega⟩ (zr_c (lo := 32768) (hi := 32768) (by decide)) (by decide)
  have same : v &&& 16383 = v - 32768 := Int32.toInt_inj.mp (by rw [e16, ts, c8]; omega)
  have rv : zr 0 16383 (v - 32768) := ⟨by omega, by omega⟩
  refine zp2_ckl (zp2_ckr (zp2_ifr (fun q => zp2_some ⟨rfl, rfl, ?_, ?_⟩) (fun q => zp2_some ⟨rfl, rfl, ?_, ?_⟩)))
  · show (v &&& 16383) + (16384 * ((μ.1 3 32 >>> ((2 : Int32) &&& 31)) &&& 1)) = v - 32768 + 0
    rw [kk.1 q, same, show (16384 : Int32) * 0 = 0 by decide]
  · show zr 0 32767 ((v &&& 16383) + (16384 * ((μ.1 3 32 >>> ((2 : Int32) &&& 31)) &&& 1)))
    rw [kk.1 q, same, show (16384 : Int32) * 0 = 0 by decide, Int32.add_zero]
    exact zr_w rv (by decide)
  · show (v &&& 16383) + (16384 * ((μ.1 3 32 >>> ((2 : Int32) &&& 31)) &&& 1)) = v - 32768 + 16384
    rw [kk.2 q, same, show (16384 : Int32) * 1 = 16384 by decide]
  · show zr 0 32767 ((v &&& 16383) + (16384 * ((μ.1 3 32 >>> ((2 : Int32) &&& 31)) &&& 1)))
    rw [kk.2 q, same, show (16384 : Int32) * 1 = 16384 by decide]
    exact zr_add (lo := 0) (hi := 32767) rv (zr_c (lo := 16384) (hi := 16384) (by decide)) (by decide)
theorem z_third {v : Int32} (hv : zr 0 49151 v) : v >>> ((14 : Int32) &&& 31) = v / 16384 ∧ zr 0 2 (v / 16384) ∧ (v / 16384).toInt = v.toInt / 16384 := by
  have v0 := hv.1
  have v1 := hv.2
  have q := z_quo (k := 14) (s := (14 : Int32) &&& 31) v0 rfl
  have d := z_tdiv (y := (16384 : Int32)) 16384 rfl hv (by decide)
  exact ⟨Int32.toInt_inj.mp (by rw [q, d]; rfl), ⟨by omega, by omega⟩, d⟩
/-- a read of both memories -/
theorem z2_read {σ μ : zSt} {x : Int32} (h : zMe σ μ) (hr : zMr σ μ) : zp2 (fX2_read σ x) (fX12_read μ x) (fun r r' => r.1 = σ ∧ r'.1 = μ ∧ r.2 = r'.2) := by
  unfold fX2_read fX12_read
  refine zp2_bvl (fun v ev => zp2_bvr (fun w ew => ?_))
  have e : w = v := by rw [ev, ew]
  subst e
  have hv : zr 0 65535 w := by rw [ew]; exact zr_andr (lo := 0) (hi := 65535) (zr_c (lo := 65535) (hi := 65535) (by decide)) (by decide)
  have v0 := hv.1
  have v1 := hv.2
  have c9 : (49152 : Int32).toInt = 49152 := rfl
  have c8 : (32768 : Int32).toInt = 32768 := rfl
  have c0 : (0 : Int32).toInt = 0 := rfl
  have h' := h
  obtain ⟨hram, hbat, hpg, hk, hc, hf⟩ := h
  have hr' := hr
  obtain ⟨r3, r4, r6, r7, ryp, rpg⟩ := hr
  obtain ⟨d4, d5, d6, d7, db, _⟩ := hc
  refine zp2_if (fun q => ?_) (fun q => ?_)
  · have q1 := Int32.lt_iff_toInt_lt.mp q
    have hw : zr 0 49151 w := ⟨v0, by omega⟩
    obtain ⟨th, tr, td⟩ := z_third hw
    rw [show zgi σ 1 6 = μ.1 0 7 from d6, show zgi σ 1 5 = μ.1 0 6 from d5]
    -- behind the battery
    have bank : 1 ≤ (μ.1 0 6).toInt → ¬ μ.1 0 7 = 0 → zp2 (fX2_read_62 σ w) (if (zgi μ 0 7) = 3 then if 32768 ≤ w then zck (zin 31 1048) (fX12_read_111 μ w (zgi μ 3 (31 : Int32).toNatClampNeg)) else zck (decide (¬ 16384 = 0)) (fX12_read_111 μ w (w / 16384)) else if (zgi μ 0 7) = 1 then if 1024 ≤ w then fX12_read_138 μ w else zbi (fX12_ofBank μ 0 w) (fun σ8 v9 => some (σ8, v9)) else fX12_read_138 μ w) (fun r r' => r.1 = σ ∧ r'.1 = μ ∧ r.2 = r'.2) := fun hb np => by
      have fin : ∀ b : Int32, zr 0 255 b → zp2 (fX2_read_126 σ w b) (zbi (fX12_ofBank μ b w) (fun σ1 v2 => some (σ1, v2))) (fun r r' => r.1 = σ ∧ r'.1 = μ ∧ r.2 = r'.2) := fun b hb2 => by
        intro a c ea ec
        cases q9 : fX12_ofBank μ b w with
        | none => rw [q9] at ec; cases ec
        | some d =>
          rw [q9] at ec
          have ec : some (d.1, d.2) = some c := ec
          cases ec
          exact z2_bank h' hr' hw hb2 hb a d ea q9
      unfold fX2_read_62 fX2_read_86 fX2_read_87 fX2_read_106 fX12_read_111 fX12_read_138
      refine zp2_bvl (fun t et => ?_)
      rw [th] at et
      subst et
      rw [show zgi σ 1 6 = μ.1 0 7 from d6, show zgi μ 0 7 = μ.1 0 7 from rfl]
      have two : (2 : Int32) ≤ w / 16384 ↔ (32768 : Int32) ≤ w := by
        have c2 : (2 : Int32).toInt = 2 := rfl
        constructor
        · intro r; exact Int32.le_iff_toInt_le.mpr (by have := Int32.le_iff_toInt_le.mp r; omega)
        · intro r; exact Int32.le_iff_toInt_le.mpr (by have := Int32.le_iff_toInt_le.mp r; omega)
      have t0 := tr.1
      have t2 := tr.2
      have kt := z_clamp t0
      have pg : zgi σ 19 (w / 16384).toNatClampNeg = zgi μ 3 (29 + w / 16384).toNatClampNeg := by
        have ta : (29 + w / 16384).toInt = (29 : Int32).toInt + (w / 16384).toInt := z_tadd (zr_c (lo := 29) (hi := 29) (by decide)) tr (by decide)
        have c29 : (29 : Int32).toInt = 29 := rfl
        have ka := z_clamp (x := 29 + w / 16384) (by omega)
        show σ.1 19 (w / 16384).toNatClampNeg = μ.1 3 (29 + w / 16384).toNatClampNeg
        rw [hpg _ (by omega), show (29 + w / 16384).toNatClampNeg = 29 + (w / 16384).toNatClampNeg by omega]
      have rpgb : zr 0 255 (zgi μ 3 (29 + w / 16384).toNatClampNeg) := by
        have ta : (29 + w / 16384).toInt = (29 : Int32).toInt + (w / 16384).toInt := z_tadd (zr_c (lo := 29) (hi := 29) (by decide)) tr (by decide)
        have c29 : (29 : Int32).toInt = 29 := rfl
        have ka := z_clamp (x := 29 + w / 16384) (by omega)
        exact rpg _ (by omega) (by omega)
      by_cases p3 : μ.1 0 7 = 3
      · have p1 : ¬ μ.1 0 7 = 1 := fun r => by rw [r] at p3; exact absurd p3 (by decide)
        refine zp2_ifl (fun _ => ?_) (fun r => absurd p3 r)
        refine zp2_ifr (fun _ => ?_) (fun r => absurd p3 r)
        refine zp2_ifl (fun r => zp2_ifr (fun r' => ?_) (fun r' => absurd (two.mp r) r')) (fun r => zp2_ifr (fun r' => absurd (two.mpr r') r) (fun r' => ?_))
        · have e2 : w / 16384 = 2 := Int32.toInt_inj.mp (by have := Int32.le_iff_toInt_le.mp r; have c2 : (2 : Int32).toInt = 2 := rfl; omega)
          refine zp2_ifl (fun _ => zp2_ckl (zp2_ckr (zp2_ifl (fun s => absurd s p1) (fun _ => ?_)))) (fun s => absurd rfl s)
          rw [pg, e2]
          exact fin _ (rpg 31 (by decide) (by decide))
        · refine zp2_ifl (fun s => absurd s (by decide)) (fun _ => zp2_ckr (zp2_ifl (fun s => absurd s p1) (fun _ => ?_)))
          exact fin _ (zr_w tr (by decide))
      · refine zp2_ifl (fun r => absurd r p3) (fun _ => zp2_ifr (fun r => absurd r p3) (fun _ => ?_))
        refine zp2_ifl (fun _ => zp2_ckl ?_) (fun s => absurd rfl s)
        refine zp2_if (fun p1 => ?_) (fun p1 => ?_)
        · refine zp2_if (fun _ => ?_) (fun _ => fin _ (zr_c (by decide)))
          refine zp2_ckr (zp2_ckr ?_)
          rw [pg]
          exact fin _ rpgb
        · refine zp2_ckr (zp2_ckr ?_)
          rw [pg]
          exact fin _ rpgb
    refine zp2_bir p_isBat (fun μ6 v7 p => ?_)
    obtain ⟨p1, p2⟩ := p
    have p1 : μ6 = μ := p1
    subst p1
    by_cases z0 : μ6.1 0 7 = 0
    · -- no paging
      refine zp2_ifl (fun _ => ?_) (fun r => absurd z0 r)
      have nb : v7 = 0 := by
        rcases p2 with ⟨a, _⟩ | ⟨_, b⟩
        · have := a.1; rw [z0] at this; exact absurd this (by decide)
        · exact b
      refine zp2_ifr (fun _ => zp2_ifr (fun _ => ?_) (fun r => absurd z0 r)) (fun r => absurd nb r)
      unfold fX2_read_144 fX2_read_169 fX12_read_80
      rw [show zgi σ 1 4 = zgi μ6 0 5 from d4]
      refine zp2_if (fun _ => zp2_some ⟨rfl, rfl, rfl⟩) (fun r => zp2_ckl (zp2_ckr (zp2_some ⟨rfl, rfl, ?_⟩)))
      have r1 := Int32.lt_iff_toInt_lt.mp (z_nle r)
      have g5 : (zgi μ6 0 5).toInt = (μ6.1 0 5).toInt := rfl
      have b0 := r3.1
      have kw := z_clamp v0
      have t5 : (σ.1 1 3 + w).toInt = (σ.1 1 3).toInt + w.toInt := z_tadd r3 hw (by decide)
      have k5 := z_clamp (x := σ.1 1 3 + w) (by omega)
      have k6 := z_clamp b0
      show σ.1 (ztp (σ.1 1 1)) (σ.1 1 3 + w).toNatClampNeg = μ6.1 2 w.toNatClampNeg &&& 255
      rw [show (σ.1 1 3 + w).toNatClampNeg = (σ.1 1 3).toNatClampNeg + w.toNatClampNeg by omega]
      exact db _ (by omega)
    · have hb1 : 1 ≤ (μ6.1 0 6).toInt := by
        rcases ryp with a | a
        · exact absurd (Int32.toInt_inj.mp (a.trans c0.symm)) z0
        · exact a
      refine zp2_ifl (fun r => absurd r z0) (fun _ => zp2_ifl (fun r => ?_) (fun _ => ?_))
      · have := Int32.le_iff_toInt_le.mp r; exfalso; omega
      · refine zp2_ifl (fun lo => ?_) (fun hi => ?_)
        · have lo1 := Int32.lt_iff_toInt_lt.mp lo
          have nb : v7 = 0 := by
            rcases p2 with ⟨a, _⟩ | ⟨_, b⟩
            · have := a.2.2.1; exfalso; omega
            · exact b
          exact zp2_ifr (fun _ => zp2_ifr (fun r => absurd r z0) (fun _ => bank hb1 z0)) (fun r => absurd nb r)
        · have hi1 := Int32.le_iff_toInt_le.mp (z_nlt hi)
          refine zp2_bil p_batIn (fun σ4 v5 b => ?_)
          obtain ⟨b1, b2⟩ := b
          have b1 : σ4 = σ := b1
          subst b1
          rw [d6, hk] at b2
          rcases p2 with ⟨a, a2⟩ | ⟨a, a2⟩
          · have a2 : v7 = 1 := a2
            have v5e : v5 = 1 := by
              rcases b2 with ⟨_, e⟩ | ⟨n, _⟩
              · exact e
              · exact absurd ⟨a.1, a.2.1⟩ n
            refine zp2_ifl (fun r => absurd (v5e.symm.trans r) (by decide)) (fun _ => zp2_ifr (fun r => absurd (a2.symm.trans r) (by decide)) (fun _ => ?_))
            refine zp2_bii (z2_batAt h' hr' a.2.2.1 a.2.2.2) (fun σ6 v7' μ10 v11 s => ?_)
            obtain ⟨s1, s2, s3, s4⟩ := s
            have s1 : σ6 = σ4 := s1
            have s2 : μ10 = μ6 := s2
            have s3 : v7' = v11 := s3
            subst s1
            subst s2
            subst s3
            refine zp2_ckl (zp2_ckr (zp2_some ⟨rfl, rfl, ?_⟩))
            have k7 := z_clamp (x := v7') s4.1
            have s42 : v7'.toInt ≤ 32767 := s4.2
            exact hbat _ (by omega)
          · have a2 : v7 = 0 := a2
            have v5e : v5 = 0 := by
              rcases b2 with ⟨y, _⟩ | ⟨_, e⟩
              · exact absurd ⟨y.1, y.2, by omega, by omega⟩ a
              · exact e
            exact zp2_ifl (fun _ => zp2_ifr (fun _ => zp2_ifr (fun r => absurd r z0) (fun _ => bank hb1 z0)) (fun r => absurd a2 r)) (fun r => absurd v5e r)
  · have q1 := Int32.le_iff_toInt_le.mp (z_nlt q)
    have e8 := z_8 v0
    have tr := z_trem (y := (8192 : Int32)) 8192 rfl hv (by decide)
    have same : w &&& 8191 = zrem w 8192 := Int32.toInt_inj.mp (by rw [e8, tr])
    have m0 := Int.emod_nonneg w.toInt (b := 8192) (by decide)
    have m1 := Int.emod_lt_of_pos w.toInt (b := 8192) (by decide)
    have kr := z_clamp (x := zrem w 8192) (by omega)
    rw [same]
    refine zp2_ckl (zp2_ckr (zp2_ckr (zp2_some ⟨rfl, rfl, ?_⟩)))
    exact hram _ (by omega)
theorem z_mm {a : Int32} : (a &&& 65535) &&& 65535 = a &&& 65535 := by rw [Int32.and_assoc, show (65535 : Int32) &&& 65535 = 65535 by decide]
theorem z_rdm {μ : zSt} {a : Int32} : fX12_read μ (a &&& 65535) = fX12_read μ a := by
  unfold fX12_read
  rw [z_mm]
theorem z_rdc {σ : zSt} {a : Int32} : fX2_read σ (a &&& 65535) = fX2_read σ a := by
  unfold fX2_read
  rw [z_mm]
theorem z_wrm {μ : zSt} {a v : Int32} : fX12_write μ (a &&& 65535) v = fX12_write μ a v := by
  unfold fX12_write
  rw [z_mm]
theorem z_wrb {μ : zSt} {a v : Int32} : fX12_write μ a (v &&& 255) = fX12_write μ a v := by
  unfold fX12_write
  rw [Int32.and_assoc, show (255 : Int32) &&& 255 = 255 by decide]
theorem z_p1 (a : Int32) : (((a + 1) &&& 65535) + 1) &&& 65535 = (a + 2) &&& 65535 := by
  refine Int32.toBitVec_inj.1 ?_
  rw [Int32.toBitVec_and, Int32.toBitVec_and, Int32.toBitVec_add, Int32.toBitVec_and, Int32.toBitVec_add, Int32.toBitVec_add]
  refine BitVec.eq_of_toNat_eq ?_
  rw [BitVec.toNat_and, BitVec.toNat_and, BitVec.toNat_add, BitVec.toNat_and, BitVec.toNat_add, BitVec.toNat_add]
  rw [show (65535 : Int32).toBitVec.toNat = 2 ^ 16 - 1 from rfl, show (1 : Int32).toBitVec.toNat = 1 from rfl, show (2 : Int32).toBitVec.toNat = 2 from rfl, Nat.and_two_pow_sub_one_eq_mod, Nat.and_two_pow_sub_one_eq_mod, Nat.and_two_pow_sub_one_eq_mod]
  omega
end ZJN10
section ZJN11
/-! a write into both memories -/
noncomputable def zFw (σ σ' : zSt) : Prop := (∀ k, ¬ k = 15 → ¬ k = 17 → ¬ k = 19 → σ'.1 k = σ.1 k) ∧ σ'.2 = σ.2
noncomputable def zFv (μ μ' : zSt) : Prop := (∀ k, ¬ k = 3 → ¬ k = 5 → ¬ k = 6 → μ'.1 k = μ.1 k) ∧ (∀ j, j < 29 ∨ 32 < j → μ'.1 3 j = μ.1 3 j) ∧ μ'.2 = μ.2
theorem zFw.rf {σ : zSt} : zFw σ σ := ⟨fun _ _ _ _ => rfl, rfl⟩
theorem zFv.rf {μ : zSt} : zFv μ μ := ⟨fun _ _ _ _ => rfl, fun _ _ => rfl, rfl⟩
theorem zFw.tr {a b c : zSt} (h : zFw a b) (k : zFw b c) : zFw a c := ⟨fun i x y z => (k.1 i x y z).trans (h.1 i x y z), k.2.trans h.2⟩
theorem zFv.tr {a b c : zSt} (h : zFv a b) (k : zFv b c) : zFv a c := ⟨fun i x y z => (k.1 i x y z).trans (h.1 i x y z), fun j hj => (k.2.1 j hj).trans (h.2.1 j hj), k.2.2.trans h.2.2⟩
theorem zFw.w {σ : zSt} {k j : Nat} {v : Int32} (c : k = 15 ∨ k = 17 ∨ k = 19) : zFw σ (zsi σ k j v) := ⟨fun i x y z => zsi_ne (by omega), rfl⟩
theorem zFv.w5 {μ : zSt} {k j : Nat} {v : Int32} (c : k = 5 ∨ k = 6) : zFv μ (zsi μ k j v) := ⟨fun i x y z => zsi_ne (by omega), fun j hj => by rw [zsi_ne (by omega)], rfl⟩
theorem zFv.w3 {μ : zSt} {j : Nat} {v : Int32} (c : 29 ≤ j ∧ j ≤ 32) : zFv μ (zsi μ 3 j v) := ⟨fun i x y z => zsi_ne x, fun i hi => zsi_nj (by omega), rfl⟩
/-- cartridge: kept by such writes -/
theorem zMe.cart {σ σ' μ μ' : zSt} (h : zCart σ μ ∧ zFil μ) (a : zFw σ σ') (b : zFv μ μ') : zCart σ' μ' ∧ zFil μ' := by
  have r1 : σ'.1 1 = σ.1 1 := a.1 1 (by decide) (by decide) (by decide)
  have m0 : μ'.1 0 = μ.1 0 := b.1 0 (by decide) (by decide) (by decide)
  have m2 : μ'.1 2 = μ.1 2 := b.1 2 (by decide) (by decide) (by decide)
  refine ⟨h.1.keep (fun j _ => by rw [r1]) (a.1 _ ?_ ?_ ?_) (fun j _ => by rw [m0]) m2, ?_⟩
  · rcases z_tp13 (σ.1 1 1) with e | e <;> rw [e] <;> decide
  · rcases z_tp13 (σ.1 1 1) with e | e <;> rw [e] <;> decide
  · rcases z_tp13 (σ.1 1 1) with e | e <;> rw [e] <;> decide
  · unfold zFil
    rw [m0, m2]
    exact h.2
theorem zMe.ram {σ μ : zSt} (h : zMe σ μ) {i : Nat} {x y : Int32} (e : x = y &&& 255) : zMe (zsi σ 15 i x) (zsi μ 5 i y) := by
  obtain ⟨h1, h2, h3, h4, h5⟩ := h
  refine ⟨fun j hj => ?_, fun j hj => ?_, fun j hj => ?_, ?_, zMe.cart h5 (zFw.w (Or.inl rfl)) (zFv.w5 (Or.inl rfl))⟩
  · by_cases q : j = i
    · rw [q, zsi_ej, zsi_ej]; exact e
    · rw [zsi_nj q, zsi_nj q]; exact h1 j hj
  · rw [zsi_ne (by decide), zsi_ne (by decide)]; exact h2 j hj
  · rw [zsi_ne (by decide), zsi_ne (by decide)]; exact h3 j hj
  · rw [zsi_ne (by decide), zsi_ne (by decide)]; exact h4
theorem zMe.bat {σ μ : zSt} (h : zMe σ μ) {i : Nat} {x y : Int32} (e : x = y &&& 255) : zMe (zsi σ 17 i x) (zsi μ 6 i y) := by
  obtain ⟨h1, h2, h3, h4, h5⟩ := h
  refine ⟨fun j hj => ?_, fun j hj => ?_, fun j hj => ?_, ?_, zMe.cart h5 (zFw.w (Or.inr (Or.inl rfl))) (zFv.w5 (Or.inr rfl))⟩
  · rw [zsi_ne (by decide), zsi_ne (by decide)]; exact h1 j hj
  · by_cases q : j = i
    · rw [q, zsi_ej, zsi_ej]; exact e
    · rw [zsi_nj q, zsi_nj q]; exact h2 j hj
  · rw [zsi_ne (by decide), zsi_ne (by decide)]; exact h3 j hj
  · rw [zsi_ne (by decide), zsi_ne (by decide)]; exact h4
theorem zMe.page {σ μ : zSt} (h : zMe σ μ) {i : Nat} {x : Int32} (hi : i ≤ 3) : zMe (zsi σ 19 i x) (zsi μ 3 (29 + i) x) := by
  obtain ⟨h1, h2, h3, h4, h5⟩ := h
  refine ⟨fun j hj => ?_, fun j hj => ?_, fun j hj => ?_, ?_, zMe.cart h5 (zFw.w (Or.inr (Or.inr rfl))) (zFv.w3 (by omega))⟩
  · rw [zsi_ne (by decide), zsi_ne (by decide)]; exact h1 j hj
  · rw [zsi_ne (by decide), zsi_ne (by decide)]; exact h2 j hj
  · by_cases q : j = i
    · rw [q, zsi_ej, zsi_ej]
    · rw [zsi_nj q, zsi_nj (by omega)]; exact h3 j hj
  · by_cases q : (3 : Nat) = i
    · rw [← q, zsi_ej]
      exact zsi_ej.symm
    · rw [zsi_nj q, zsi_nj (by omega)]; exact h4
noncomputable def zWq (σ μ : zSt) (r r' : zSt) : Prop := zMe r r' ∧ zFw σ r ∧ zFv μ r'
theorem z2_w22 {σ μ : zSt} {v x : Int32} (h : zMe σ μ) (hr : zMr σ μ) (hv : zr 0 65535 v) (hx : zr 0 255 x) : zp2 (fX2_write_22 σ x v) (fX12_write_31 μ v x) (zWq σ μ) := by
  have h' := h
  obtain ⟨hram, hbat, hpg, hk, hc, hf⟩ := h
  have hr' := hr
  obtain ⟨r3, r4, r6, r7, ryp, rpg⟩ := hr
  obtain ⟨d4, d5, d6, d7, db, _⟩ := hc
  have v0 := hv.1
  have v1 := hv.2
  have c2 : (65532 : Int32).toInt = 65532 := rfl
  have c3 : (65533 : Int32).toInt = 65533 := rfl
  have c8 : (32768 : Int32).toInt = 32768 := rfl
  have c9 : (49152 : Int32).toInt = 49152 := rfl
  have c0 : (0 : Int32).toInt = 0 := rfl
  have c6 : (16384 : Int32).toInt = 16384 := rfl
  have stay : zWq σ μ σ μ := ⟨h', zFw.rf, zFv.rf⟩
  have hxx : x = vp_nar .byte (x.toInt8.toInt32) &&& 255 := by
    rw [z_nar, z_i8]
    exact Int32.toInt_inj.mp (by rw [z_mask (k := 8) hx.1 rfl (by decide)]; have := hx.1; have := hx.2; show x.toInt = x.toInt % 256; omega)
  unfold fX2_write_22 fX12_write_31
  rw [show zgi σ 1 6 = μ.1 0 7 from d6]
  refine zp2_bir p_isBat (fun μ5 v6 p => ?_)
  obtain ⟨p1, p2⟩ := p
  have p1 : μ5 = μ := p1
  subst p1
  by_cases z1 : μ5.1 0 7 = 1
  · have n2 : ¬ μ5.1 0 7 = 2 := fun r => by rw [r] at z1; exact absurd z1 (by decide)
    have n3 : ¬ μ5.1 0 7 = 3 := fun r => by rw [r] at z1; exact absurd z1 (by decide)
    have done : ∀ (σ1 μ1 : zSt), zWq σ μ5 σ1 μ1 → zp2 (fX2_write_151 σ1 ) (fX12_write_103 μ1 v x) (zWq σ μ5) := fun σ1 μ1 hq => by
      unfold fX2_write_151 fX12_write_103 fX12_write_140 fX12_write_163
      have m : zgi μ1 0 7 = μ5.1 0 7 := congrFun (hq.2.2.1 0 (by decide) (by decide) (by decide)) 7
      rw [m]
      exact zp2_ifr (fun r => absurd r n2) (fun _ => zp2_ifr (fun r => absurd r n3) (fun _ => zp2_some hq))
    have low : v.toInt < 65532 → ∀ (σ1 μ1 : zSt), zWq σ μ5 σ1 μ1 → zp2 (fX2_write_151 σ1 ) (fX12_write_52 μ1 v x) (zWq σ μ5) := fun hl σ1 μ1 hq => by
      unfold fX12_write_52 fX12_write_75
      have m : zgi μ1 0 7 = μ5.1 0 7 := congrFun (hq.2.2.1 0 (by decide) (by decide) (by decide)) 7
      rw [m]
      refine zp2_ifr (fun _ => zp2_ifr (fun r => ?_) (fun _ => zp2_ifr (fun _ => zp2_ifr (fun _ => done σ1 μ1 hq) (fun r => ?_)) (fun r => absurd z1 r))) (fun r => absurd z1 r)
      · rw [r] at hl; exfalso; omega
      · have := Int32.lt_iff_toInt_lt.mp (z_nle r); exfalso; omega
    refine zp2_ifl (fun _ => zp2_ifl (fun q => ?_) (fun q => ?_)) (fun r => absurd z1 r)
    · have q1 := Int32.lt_iff_toInt_lt.mp q
      refine zp2_ifl (fun a => ?_) (fun a => zp2_ifl (fun b => ?_) (fun b => ?_))
      · have a1 := Int32.lt_iff_toInt_lt.mp a
        have nb : v6 = 0 := by
          rcases p2 with ⟨y, _⟩ | ⟨_, e⟩
          · have := y.2.2.1; exfalso; omega
          · exact e
        exact zp2_ifr (fun _ => low (by omega) σ μ5 stay) (fun r => absurd nb r)
      · have b1 := Int32.le_iff_toInt_le.mp b
        have nb : v6 = 0 := by
          rcases p2 with ⟨y, _⟩ | ⟨_, e⟩
          · have := y.2.2.2; exfalso; omega
          · exact e
        exact zp2_ifr (fun _ => low (by omega) σ μ5 stay) (fun r => absurd nb r)
      · have a1 := Int32.le_iff_toInt_le.mp (z_nlt a)
        have b1 := Int32.lt_iff_toInt_lt.mp (z_nle b)
        refine zp2_bil p_batIn (fun σ4 v5 bb => ?_)
        obtain ⟨s1, s2⟩ := bb
        have s1 : σ4 = σ := s1
        subst s1
        rw [d6, hk] at s2
        rcases p2 with ⟨y, y2⟩ | ⟨y, y2⟩
        · have y2 : v6 = 1 := y2
          have v5e : v5 = 1 := by
            rcases s2 with ⟨_, e⟩ | ⟨n, _⟩
            · exact e
            · exact absurd ⟨y.1, y.2.1⟩ n
          refine zp2_ifl (fun r => absurd (v5e.symm.trans r) (by decide)) (fun _ => zp2_ifr (fun r => absurd (y2.symm.trans r) (by decide)) (fun _ => ?_))
          refine zp2_bii (z2_batAt h' hr' y.2.2.1 y.2.2.2) (fun σ6 w7 μ7 w8 s => ?_)
          obtain ⟨t1, t2, t3, t4⟩ := s
          have t1 : σ6 = σ4 := t1
          have t2 : μ7 = μ5 := t2
          have t3 : w7 = w8 := t3
          subst t1
          subst t2
          subst t3
          refine zp2_ckl (zp2_bvl (fun σ8 e8 => zp2_ckr (zp2_bvr (fun μ9 e9 => ?_))))
          exact low (by omega) σ8 μ9 ⟨by rw [e8, e9]; exact h'.bat hxx, by rw [e8]; exact zFw.w (Or.inr (Or.inl rfl)), by rw [e9]; exact zFv.w5 (Or.inr rfl)⟩
        · have y2 : v6 = 0 := y2
          have v5e : v5 = 0 := by
            rcases s2 with ⟨z, _⟩ | ⟨_, e⟩
            · exact absurd ⟨z.1, z.2, by omega, by omega⟩ y
            · exact e
          exact zp2_ifl (fun _ => zp2_ifr (fun _ => low (by omega) σ4 μ5 stay) (fun r => absurd y2 r)) (fun r => absurd v5e r)
    · have q1 := Int32.le_iff_toInt_le.mp (z_nlt q)
      have nb : v6 = 0 := by
        rcases p2 with ⟨y, _⟩ | ⟨_, e⟩
        · have := y.2.2.2; exfalso; omega
        · exact e
      refine zp2_ifr (fun _ => ?_) (fun r => absurd nb r)
      unfold fX2_write_54 fX12_write_52 fX12_write_75
      rw [show zgi μ5 0 7 = μ5.1 0 7 from rfl]
      refine zp2_ifr (fun _ => ?_) (fun r => absurd z1 r)
      refine zp2_if (fun a => ?_) (fun a => ?_)
      · refine zp2_ckl (zp2_bvl (fun σ1 e1 => zp2_ckr (zp2_bvr (fun μ4 e4 => ?_))))
        have hq : zWq σ μ5 σ1 μ4 := ⟨by rw [e1, e4]; exact h'.page (i := 3) (by decide), by rw [e1]; exact zFw.w (Or.inr (Or.inr rfl)), by rw [e4]; exact zFv.w3 (by decide)⟩
        have m : zgi μ4 0 7 = μ5.1 0 7 := congrFun (hq.2.2.1 0 (by decide) (by decide) (by decide)) 7
        rw [m]
        exact zp2_ifr (fun _ => zp2_ifr (fun _ => done σ1 μ4 hq) (fun r => absurd (by rw [a]; decide) r)) (fun r => absurd z1 r)
      · refine zp2_ifr (fun _ => zp2_ifr (fun r => ?_) (fun _ => ?_)) (fun r => absurd z1 r)
        · have := Int32.le_iff_toInt_le.mp r
          exact absurd (Int32.toInt_inj.mp (by omega)) a
        · have a1 : ¬ v.toInt = 65532 := fun r => a (Int32.toInt_inj.mp (r.trans c2.symm))
          have t1 : (v - 65533).toInt = v.toInt - (65533 : Int32).toInt := z_tsub hv (zr_c (lo := 65533) (hi := 65533) (by decide)) (by decide)
          have t2 : (29 + v).toInt = (29 : Int32).toInt + v.toInt := z_tadd (zr_c (lo := 29) (hi := 29) (by decide)) hv (by decide)
          have t3 : ((29 + v) - 65533).toInt = (29 + v).toInt - (65533 : Int32).toInt := z_tsub (zr_add (lo := 29) (hi := 65564) (zr_c (lo := 29) (hi := 29) (by decide)) hv (by decide)) (zr_c (lo := 65533) (hi := 65533) (by decide)) (by decide)
          have c29 : (29 : Int32).toInt = 29 := rfl
          have k1 := z_clamp (x := v - 65533) (by omega)
          have k3 := z_clamp (x := (29 + v) - 65533) (by omega)
          refine zp2_ckl (zp2_bvl (fun σ1 e1 => zp2_ckr (zp2_bvr (fun μ3 e3 => ?_))))
          rw [show ((29 + v) - 65533).toNatClampNeg = 29 + (v - 65533).toNatClampNeg by omega] at e3
          exact done σ1 μ3 ⟨by rw [e1, e3]; exact h'.page (by omega), by rw [e1]; exact zFw.w (Or.inr (Or.inr rfl)), by rw [e3]; exact zFv.w3 (by omega)⟩
  · have nb : v6 = 0 := by
      rcases p2 with ⟨y, _⟩ | ⟨_, e⟩
      · exact absurd y.1 z1
      · exact e
    refine zp2_ifl (fun r => absurd r z1) (fun _ => zp2_ifr (fun _ => ?_) (fun r => absurd nb r))
    unfold fX12_write_52 fX12_write_75
    rw [show zgi μ5 0 7 = μ5.1 0 7 from rfl]
    refine zp2_ifr (fun r => absurd r z1) (fun _ => zp2_ifr (fun r => absurd r z1) (fun _ => ?_))
    -- paging 3 or none
    have last : ∀ (σ1 μ1 : zSt), ¬ μ5.1 0 7 = 3 → zWq σ μ5 σ1 μ1 → zp2 (fX2_write_151 σ1 ) (fX12_write_140 μ1 v x) (zWq σ μ5) := fun σ1 μ1 n3 hq => by
      unfold fX2_write_151 fX12_write_140 fX12_write_163
      have m : zgi μ1 0 7 = μ5.1 0 7 := congrFun (hq.2.2.1 0 (by decide) (by decide) (by decide)) 7
      rw [m]
      exact zp2_ifr (fun r => absurd r n3) (fun _ => zp2_some hq)
    have both : zp2 (fX2_write_130 σ x v) (fX12_write_140 μ5 v x) (zWq σ μ5) := by
      unfold fX2_write_130 fX2_write_151 fX12_write_140 fX12_write_163
      rw [show zgi σ 1 6 = zgi μ5 0 7 from d6]
      refine zp2_if (fun _ => zp2_if (fun _ => zp2_ckl (zp2_bvl (fun σ1 e1 => zp2_ckr (zp2_bvr (fun μ3 e3 => zp2_some ?_))))) (fun _ => zp2_some stay)) (fun _ => zp2_some stay)
      exact ⟨by rw [e1, e3]; exact h'.page (i := 2) (by decide), by rw [e1]; exact zFw.w (Or.inr (Or.inr rfl)), by rw [e3]; exact zFv.w3 (by decide)⟩
    unfold fX12_write_103
    rw [show zgi μ5 0 7 = μ5.1 0 7 from rfl]
    refine zp2_if (fun z2 => ?_) (fun z2 => both)
    have n3 : ¬ μ5.1 0 7 = 3 := fun r => by rw [r] at z2; exact absurd z2 (by decide)
    -- paging 2: one of three places, or none
    have hit : v.toInt < 49152 → v.toInt % 16384 = 0 → zp2 (fX2_write_117 σ x v) (if 49152 ≤ v then fX12_write_140 μ5 v x else zck (decide (¬ 16384 = 0)) (if (zrem v 16384) = 0 then zck (decide (¬ 16384 = 0)) (zck (zin (29 + (v / 16384)) 1048) (zbv (zsi μ5 3 ((29 + (v / 16384)).toNatClampNeg) x) (fun σ2 => fX12_write_140 σ2 v x))) else fX12_write_140 μ5 v x)) (zWq σ μ5) := fun hl hm => by
      obtain ⟨th, tr, td⟩ := z_third (v := v) ⟨v0, by omega⟩
      have rem := z_trem (y := (16384 : Int32)) 16384 rfl hv (by decide)
      have tr0 := tr.1
      have tr2 := tr.2
      have kt := z_clamp tr0
      have ta : (29 + v / 16384).toInt = (29 : Int32).toInt + (v / 16384).toInt := z_tadd (zr_c (lo := 29) (hi := 29) (by decide)) tr (by decide)
      have c29 : (29 : Int32).toInt = 29 := rfl
      have ka := z_clamp (x := 29 + v / 16384) (by omega)
      unfold fX2_write_117
      rw [th]
      refine zp2_ifr (fun r => ?_) (fun _ => zp2_ckr (zp2_ifr (fun _ => ?_) (fun r => ?_)))
      · have := Int32.le_iff_toInt_le.mp r; exfalso; omega
      · refine zp2_ckl (zp2_bvl (fun σ3 e3 => zp2_ckr (zp2_ckr (zp2_bvr (fun μ2 e2 => ?_)))))
        rw [show (29 + v / 16384).toNatClampNeg = 29 + (v / 16384).toNatClampNeg by omega] at e2
        exact last σ3 μ2 n3 ⟨by rw [e3, e2]; exact h'.page (by omega), by rw [e3]; exact zFw.w (Or.inr (Or.inr rfl)), by rw [e2]; exact zFv.w3 (by omega)⟩
      · exact absurd (Int32.toInt_inj.mp (by rw [rem, hm]; rfl)) r
    have miss : (49152 ≤ v.toInt ∨ ¬ v.toInt % 16384 = 0) → zp2 (fX2_write_130 σ x v) (if 49152 ≤ v then fX12_write_140 μ5 v x else zck (decide (¬ 16384 = 0)) (if (zrem v 16384) = 0 then zck (decide (¬ 16384 = 0)) (zck (zin (29 + (v / 16384)) 1048) (zbv (zsi μ5 3 ((29 + (v / 16384)).toNatClampNeg) x) (fun σ2 => fX12_write_140 σ2 v x))) else fX12_write_140 μ5 v x)) (zWq σ μ5) := fun hm => by
      have rem := z_trem (y := (16384 : Int32)) 16384 rfl hv (by decide)
      refine zp2_ifr (fun _ => both) (fun r => zp2_ckr (zp2_ifr (fun s => ?_) (fun _ => both)))
      have r1 := Int32.lt_iff_toInt_lt.mp (z_nle r)
      rw [s, c0] at rem
      exfalso
      omega
    refine zp2_ifl (fun a => ?_) (fun a => zp2_ifl (fun b => ?_) (fun b => zp2_ifl (fun c => ?_) (fun c => ?_)))
    · exact hit (by rw [a, c0]; decide) (by rw [a, c0]; decide)
    · exact hit (by rw [b, c6]; decide) (by rw [b, c6]; decide)
    · exact hit (by rw [c, c8]; decide) (by rw [c, c8]; decide)
    · refine miss ?_
      have a1 : ¬ v.toInt = 0 := fun r => a (Int32.toInt_inj.mp (r.trans c0.symm))
      have b1 : ¬ v.toInt = 16384 := fun r => b (Int32.toInt_inj.mp (r.trans c6.symm))
      have d1 : ¬ v.toInt = 32768 := fun r => c (Int32.toInt_inj.mp (r.trans c8.symm))
      omega
theorem z2_write {σ μ : zSt} {x y : Int32} (h : zMe σ μ) (hr : zMr σ μ) (hy : zr 0 255 y) : zp2 (fX2_write σ x y) (fX12_write μ x y) (zWq σ μ) := by
  unfold fX2_write fX12_write
  refine zp2_bvl (fun v ev => zp2_bvr (fun w ew => zp2_bvr (fun u eu => ?_)))
  have e : w = v := by rw [ev, ew]
  subst e
  have hv : zr 0 65535 w := by rw [ew]; exact zr_andr (lo := 0) (hi := 65535) (zr_c (lo := 65535) (hi := 65535) (by decide)) (by decide)
  have y0 := hy.1
  have y1 := hy.2
  have eu2 : u = y := by
    rw [eu]
    exact Int32.toInt_inj.mp (by rw [z_mask (k := 8) y0 rfl (by decide)]; show y.toInt % 256 = y.toInt; omega)
  subst eu2
  have v0 := hv.1
  refine zp2_if (fun _ => z2_w22 h hr hv hy) (fun _ => ?_)
  have e8 := z_8 v0
  have tr := z_trem (y := (8192 : Int32)) 8192 rfl hv (by decide)
  have same : w &&& 8191 = zrem w 8192 := Int32.toInt_inj.mp (by rw [e8, tr])
  rw [same]
  refine zp2_ckl (zp2_bvl (fun σ1 e1 => zp2_ckr (zp2_ckr (zp2_bvr (fun μ1 f1 => ?_)))))
  have hxx : u = vp_nar .byte (u.toInt8.toInt32) &&& 255 := by
    rw [z_nar, z_i8]
    exact Int32.toInt_inj.mp (by rw [z_mask (k := 8) y0 rfl (by decide)]; show u.toInt = u.toInt % 256; omega)
  have h1 : zMe σ1 μ1 := by rw [e1, f1]; exact h.ram hxx
  have a1 : zFw σ σ1 := by rw [e1]; exact zFw.w (Or.inl rfl)
  have b1 : zFv μ μ1 := by rw [f1]; exact zFv.w5 (Or.inl rfl)
  have r1 : zMr σ1 μ1 := by
    obtain ⟨r3, r4, r6, r7, ryp, rpg⟩ := hr
    have s1 : σ1.1 1 = σ.1 1 := a1.1 1 (by decide) (by decide) (by decide)
    have m0 : μ1.1 0 = μ.1 0 := b1.1 0 (by decide) (by decide) (by decide)
    have m3 : μ1.1 3 = μ.1 3 := by rw [f1]; exact zsi_ne (by decide)
    unfold zMr
    rw [s1, m0, m3]
    exact ⟨r3, r4, r6, r7, ryp, rpg⟩
  exact zp2_mono (z2_w22 h1 r1 hv hy) (fun _ _ q => ⟨q.1, a1.tr q.2.1, b1.tr q.2.2⟩)
end ZJN11
section ZJN12
/-! the processor of both sides -/
noncomputable def zCp (σ μ : zSt) : Prop := (∀ j : Nat, j ≤ 26 → σ.1 36 j = μ.1 3 j) ∧ σ.1 36 27 = μ.1 3 28 ∧ σ.1 36 28 = μ.1 3 27 ∧ (∀ j : Nat, j < 16 → zr 0 255 (σ.1 36 j)) ∧ (∀ j : Nat, 16 ≤ j → j ≤ 20 → zr 0 65535 (σ.1 36 j)) ∧ (∀ j : Nat, 21 ≤ j → j ≤ 22 → zr 0 255 (σ.1 36 j))
/-- what an instruction leaves as it is -/
noncomputable def zFc (σ σ' : zSt) : Prop := (∀ k, ¬ k = 7 → ¬ k = 15 → ¬ k = 17 → ¬ k = 19 → ¬ k = 36 → σ'.1 k = σ.1 k) ∧ σ'.2 = σ.2
noncomputable def zFm (μ μ' : zSt) : Prop := (∀ k, ¬ k = 0 → ¬ k = 3 → ¬ k = 5 → ¬ k = 6 → μ'.1 k = μ.1 k) ∧ (∀ j, 32 < j → μ'.1 3 j = μ.1 3 j) ∧ (∀ j, j < 31 ∨ 33 < j → μ'.1 0 j = μ.1 0 j) ∧ μ'.2 = μ.2
theorem zFc.rf {σ : zSt} : zFc σ σ := ⟨fun _ _ _ _ _ _ => rfl, rfl⟩
theorem zFm.rf {μ : zSt} : zFm μ μ := ⟨fun _ _ _ _ _ => rfl, fun _ _ => rfl, fun _ _ => rfl, rfl⟩
theorem zFc.tr {a b c : zSt} (h : zFc a b) (k : zFc b c) : zFc a c := ⟨fun i x y z w v => (k.1 i x y z w v).trans (h.1 i x y z w v), k.2.trans h.2⟩
theorem zFm.tr {a b c : zSt} (h : zFm a b) (k : zFm b c) : zFm a c := ⟨fun i x y z w => (k.1 i x y z w).trans (h.1 i x y z w), fun j hj => (k.2.1 j hj).trans (h.2.1 j hj), fun j hj => (k.2.2.1 j hj).trans (h.2.2.1 j hj), k.2.2.2.trans h.2.2.2⟩
theorem zFw.c {a b : zSt} (h : zFw a b) : zFc a b := ⟨fun k x y z w v => h.1 k y z w, h.2⟩
theorem zFv.m {a b : zSt} (h : zFv a b) : zFm a b := ⟨fun k x y z w => h.1 k y z w, fun j hj => h.2.1 j (Or.inr hj), fun j _ => by rw [h.1 0 (by decide) (by decide) (by decide)], h.2.2⟩
/-- both sides within an instruction that began at σ0, μ0 -/
noncomputable def zS (σ0 μ0 σ μ : zSt) : Prop := zMe σ μ ∧ zCp σ μ ∧ zMr σ μ ∧ zFc σ0 σ ∧ zFm μ0 μ
section ZS
variable {σ0 μ0 σ μ : zSt}
theorem zS.eq (h : zS σ0 μ0 σ μ) {j : Nat} (hj : j ≤ 26) : σ.1 36 j = μ.1 3 j := h.2.1.1 j hj
theorem zS.b (h : zS σ0 μ0 σ μ) {j : Nat} (hj : j < 16) : zr 0 255 (σ.1 36 j) := h.2.1.2.2.2.1 j hj
theorem zS.w (h : zS σ0 μ0 σ μ) {j : Nat} (h1 : 16 ≤ j) (h2 : j ≤ 20) : zr 0 65535 (σ.1 36 j) := h.2.1.2.2.2.2.1 j h1 h2
theorem zMe.cpu {v w : Int32} {j i : Nat} (h : zMe σ μ) (hi : i ≤ 28) : zMe (zsi σ 36 j v) (zsi μ 3 i w) := by
  obtain ⟨h1, h2, h3, h4, h5, h6⟩ := h
  refine ⟨fun a ha => ?_, fun a ha => ?_, fun a ha => ?_, ?_, ?_, ?_⟩
  · rw [zsi_ne (by decide), zsi_ne (by decide)]; exact h1 a ha
  · rw [zsi_ne (by decide), zsi_ne (by decide)]; exact h2 a ha
  · rw [zsi_ne (by decide), zsi_nj (by omega)]; exact h3 a ha
  · rw [zsi_ne (by decide), zsi_nj (by omega)]; exact h4
  · exact h5.keep (fun a _ => by rw [zsi_ne (by decide)]) (zsi_ne (fun e => by rcases z_tp13 (σ.1 1 1) with q | q <;> rw [q] at e <;> exact absurd e (by decide))) (fun a _ => by rw [zsi_ne (by decide)]) (zsi_ne (by decide))
  · unfold zFil
    rw [zsi_ne (by decide), zsi_ne (by decide)]
    exact h6
theorem zMr.cpu {v w : Int32} {j i : Nat} (h : zMr σ μ) (hi : i ≤ 28) : zMr (zsi σ 36 j v) (zsi μ 3 i w) := by
  obtain ⟨h1, h2, h3, h4, h5, h6⟩ := h
  refine ⟨by rw [zsi_ne (by decide)]; exact h1, by rw [zsi_ne (by decide)]; exact h2, by rw [zsi_ne (by decide)]; exact h3, by rw [zsi_ne (by decide)]; exact h4, by rw [zsi_ne (by decide)]; exact h5, fun a x y => by rw [zsi_nj (by omega)]; exact h6 a x y⟩
/-- a register on both sides -/
theorem zS.set (h : zS σ0 μ0 σ μ) {j : Nat} {v : Int32} (hj : j ≤ 26) (hb : j < 16 → zr 0 255 v) (hw : 16 ≤ j → j ≤ 20 → zr 0 65535 v) (hr : 21 ≤ j → j ≤ 22 → zr 0 255 v) : zS σ0 μ0 (zsi σ 36 j v) (zsi μ 3 j v) := by
  obtain ⟨h1, ⟨c1, c2, c3, c4, c5, c6⟩, h3, h4, h5⟩ := h
  refine ⟨h1.cpu (by omega), ⟨fun a ha => ?_, ?_, ?_, fun a ha => ?_, fun a x y => ?_, fun a x y => ?_⟩, h3.cpu (by omega), h4.tr ⟨fun k _ _ _ _ n => zsi_ne n, rfl⟩, h5.tr ⟨fun k _ n _ _ => zsi_ne n, fun a ha => zsi_nj (by omega), fun a _ => by rw [zsi_ne (by decide)], rfl⟩⟩
  · by_cases q : a = j
    · rw [q, zsi_ej, zsi_ej]
    · rw [zsi_nj q, zsi_nj q]; exact c1 a ha
  · rw [zsi_nj (by omega), zsi_nj (by omega)]; exact c2
  · rw [zsi_nj (by omega), zsi_nj (by omega)]; exact c3
  · by_cases q : a = j
    · rw [q, zsi_ej]; exact hb (by omega)
    · rw [zsi_nj q]; exact c4 a ha
  · by_cases q : a = j
    · rw [q, zsi_ej]; exact hw (by omega) (by omega)
    · rw [zsi_nj q]; exact c5 a x y
  · by_cases q : a = j
    · rw [q, zsi_ej]; exact hr (by omega) (by omega)
    · rw [zsi_nj q]; exact c6 a x y
theorem zS.setb (h : zS σ0 μ0 σ μ) {j : Nat} {v w : Int32} (e : w = v) (hj : j < 16 ∨ j = 21 ∨ j = 22) (hv : zr 0 255 v) : zS σ0 μ0 (zsi σ 36 j v) (zsi μ 3 j w) := by
  subst e
  exact h.set (by omega) (fun _ => hv) (fun _ _ => zr_w hv (by decide)) (fun _ _ => hv)
theorem zS.setw (h : zS σ0 μ0 σ μ) {j : Nat} {v w : Int32} (e : w = v) (h1 : 16 ≤ j) (h2 : j ≤ 20) (hv : zr 0 65535 v) : zS σ0 μ0 (zsi σ 36 j v) (zsi μ 3 j w) := by
  subst e
  exact h.set (by omega) (fun x => by omega) (fun _ _ => hv) (fun x _ => by omega)
theorem zp2_andr {α β : Type} {o : Option α} {p : Option β} {Q : α → β → Prop} {P : β → Prop} (h : zp2 o p Q) (k : zpc p P) : zp2 o p (fun a b => Q a b ∧ P b) := fun a b e f => ⟨h a b e f, k b f⟩
theorem p_readr {μ : zSt} {x : Int32} : zpc (fX12_read μ x) (fun r => zr 0 255 r.2) := by
  unfold fX12_read fX12_read_80 fX12_read_111 fX12_read_138
  have ofB : ∀ (ν : zSt) (b v : Int32), zpc (zbi (fX12_ofBank ν b v) (fun σ1 v2 => some (σ1, v2))) (fun r => zr 0 255 r.2) := fun ν b v => zpc_bi (P := fun r => zr 0 255 r.2) (by unfold fX12_ofBank; exact zpc_ck (zpc_ck (zpc_ck (zpc_some (z_byte _))))) (fun σ1 v2 h => zpc_some h)
  exact zpc_bv (fun v _ => zpc_if (fun _ => zpc_bi (P := fun _ => True) (fun _ _ => trivial) (fun μ6 v7 _ => zpc_if (fun _ => zpc_if (fun _ => zpc_if (fun _ => zpc_some (show zr 0 255 (255 : Int32) from zr_c (by decide))) (fun _ => zpc_ck (zpc_some (z_byte _)))) (fun _ => zpc_if (fun _ => zpc_if (fun _ => zpc_ck (ofB _ _ _)) (fun _ => zpc_ck (ofB _ _ _))) (fun _ => zpc_if (fun _ => zpc_if (fun _ => zpc_ck (zpc_ck (ofB _ _ _))) (fun _ => ofB _ _ _)) (fun _ => zpc_ck (zpc_ck (ofB _ _ _)))))) (fun _ => zpc_bi (P := fun _ => True) (fun _ _ => trivial) (fun _ _ _ => zpc_ck (zpc_some (z_byte _)))))) (fun _ => zpc_ck (zpc_ck (zpc_some (z_byte _)))))
theorem zS.read (h : zS σ0 μ0 σ μ) {x y : Int32} (e : y = x) : zp2 (fX2_read σ x) (fX12_read μ y) (fun r r' => r.1 = σ ∧ r'.1 = μ ∧ r'.2 = r.2 ∧ zr 0 255 r.2) := by
  subst e
  exact zp2_mono (zp2_andr (z2_read h.1 h.2.2.1) p_readr) (fun a b q => ⟨q.1.1, q.1.2.1, q.1.2.2.symm, by rw [q.1.2.2]; exact q.2⟩)
theorem zMr.of (h : zMr σ μ) {σ' μ' : zSt} (a : zFw σ σ') (b : zFv μ μ') (pg : ∀ j : Nat, 29 ≤ j → j ≤ 32 → zr 0 255 (μ'.1 3 j)) : zMr σ' μ' := by
  obtain ⟨h1, h2, h3, h4, h5, h6⟩ := h
  have s1 : σ'.1 1 = σ.1 1 := a.1 1 (by decide) (by decide) (by decide)
  have m0 : μ'.1 0 = μ.1 0 := b.1 0 (by decide) (by decide) (by decide)
  unfold zMr
  rw [s1, m0]
  exact ⟨h1, h2, h3, h4, h5, pg⟩
/-- pages keep their range behind a write -/
theorem p_writer {μ : zSt} {x y : Int32} (h : ∀ j : Nat, 29 ≤ j → j ≤ 32 → zr 0 255 (μ.1 3 j)) : zpc (fX12_write μ x y) (fun r => ∀ j : Nat, 29 ≤ j → j ≤ 32 → zr 0 255 (r.1 3 j)) := by
  have w3 : ∀ (ν : zSt) (i : Nat) (v : Int32), (∀ j : Nat, 29 ≤ j → j ≤ 32 → zr 0 255 (ν.1 3 j)) → zr 0 255 v → ∀ j : Nat, 29 ≤ j → j ≤ 32 → zr 0 255 ((zsi ν 3 i v).1 3 j) := fun ν i v hn hv j j1 j2 => by
    by_cases q : j = i
    · rw [q, zsi_ej]; exact hv
    · rw [zsi_nj q]; exact hn j j1 j2
  have w5 : ∀ (ν : zSt) (k i : Nat) (v : Int32), ¬ 3 = k → (∀ j : Nat, 29 ≤ j → j ≤ 32 → zr 0 255 (ν.1 3 j)) → ∀ j : Nat, 29 ≤ j → j ≤ 32 → zr 0 255 ((zsi ν k i v).1 3 j) := fun ν k i v hk hn j j1 j2 => by
    rw [zsi_ne hk]; exact hn j j1 j2
  unfold fX12_write
  refine zpc_bv (fun v _ => zpc_bv (fun w ew => ?_))
  have hw : zr 0 255 w := by rw [ew]; exact z_byte _
  have a140 : ∀ ν : zSt, (∀ j : Nat, 29 ≤ j → j ≤ 32 → zr 0 255 (ν.1 3 j)) → zpc (fX12_write_140 ν v w) (fun r => ∀ j : Nat, 29 ≤ j → j ≤ 32 → zr 0 255 (r.1 3 j)) := fun ν hn => by
    unfold fX12_write_140 fX12_write_163
    exact zpc_if (fun _ => zpc_if (fun _ => zpc_ck (zpc_bv (fun ν1 e1 => zpc_some (by rw [e1]; exact w3 _ _ _ hn hw)))) (fun _ => zpc_some hn)) (fun _ => zpc_some hn)
  have a103 : ∀ ν : zSt, (∀ j : Nat, 29 ≤ j → j ≤ 32 → zr 0 255 (ν.1 3 j)) → zpc (fX12_write_103 ν v w) (fun r => ∀ j : Nat, 29 ≤ j → j ≤ 32 → zr 0 255 (r.1 3 j)) := fun ν hn => by
    unfold fX12_write_103
    exact zpc_if (fun _ => zpc_if (fun _ => a140 _ hn) (fun _ => zpc_ck (zpc_if (fun _ => zpc_ck (zpc_ck (zpc_bv (fun ν1 e1 => a140 _ (by rw [e1]; exact w3 _ _ _ hn hw))))) (fun _ => a140 _ hn)))) (fun _ => a140 _ hn)
  have a75 : ∀ ν : zSt, (∀ j : Nat, 29 ≤ j → j ≤ 32 → zr 0 255 (ν.1 3 j)) → zpc (fX12_write_75 ν v w) (fun r => ∀ j : Nat, 29 ≤ j → j ≤ 32 → zr 0 255 (r.1 3 j)) := fun ν hn => by
    unfold fX12_write_75
    exact zpc_if (fun _ => zpc_if (fun _ => a103 _ hn) (fun _ => zpc_ck (zpc_bv (fun ν1 e1 => a103 _ (by rw [e1]; exact w3 _ _ _ hn hw))))) (fun _ => a103 _ hn)
  have a52 : ∀ ν : zSt, (∀ j : Nat, 29 ≤ j → j ≤ 32 → zr 0 255 (ν.1 3 j)) → zpc (fX12_write_52 ν v w) (fun r => ∀ j : Nat, 29 ≤ j → j ≤ 32 → zr 0 255 (r.1 3 j)) := fun ν hn => by
    unfold fX12_write_52
    exact zpc_if (fun _ => zpc_if (fun _ => zpc_ck (zpc_bv (fun ν1 e1 => a75 _ (by rw [e1]; exact w3 _ _ _ hn hw)))) (fun _ => a75 _ hn)) (fun _ => a75 _ hn)
  have a31 : ∀ ν : zSt, (∀ j : Nat, 29 ≤ j → j ≤ 32 → zr 0 255 (ν.1 3 j)) → zpc (fX12_write_31 ν v w) (fun r => ∀ j : Nat, 29 ≤ j → j ≤ 32 → zr 0 255 (r.1 3 j)) := fun ν hn => by
    unfold fX12_write_31
    refine zpc_bi p_isBat (fun ν5 v6 p => ?_)
    have p1 : ν5 = ν := p.1
    subst p1
    refine zpc_if (fun _ => a52 _ hn) (fun _ => zpc_bi (P := fun r => r.1 = ν5) (by unfold fX12_batteryAt fX12_batteryAt_23; exact zpc_ck (zpc_if (fun _ => zpc_some rfl) (fun _ => zpc_some rfl))) (fun ν7 v8 e7 => zpc_ck (zpc_bv (fun ν9 e9 => a52 _ ?_))))
    have e7 : ν7 = ν5 := e7
    rw [e9, e7]
    exact w5 _ _ _ _ (by decide) hn
  exact zpc_if (fun _ => a31 _ h) (fun _ => zpc_ck (zpc_ck (zpc_bv (fun ν1 e1 => a31 _ (by rw [e1]; exact w5 _ _ _ _ (by decide) h)))))
theorem zS.write (h : zS σ0 μ0 σ μ) {x y v w : Int32} (e : y = x) (f : w = v) (hv : zr 0 255 v) : zp2 (fX2_write σ x v) (fX12_write μ y w) (fun r r' => zS σ0 μ0 r r' ∧ zFw σ r ∧ zFv μ r') := by
  subst e
  subst f
  obtain ⟨h1, h2, h3, h4, h5⟩ := h
  refine zp2_mono (zp2_andr (z2_write h1 h3 hv) (p_writer h3.2.2.2.2.2)) (fun r r' q => ?_)
  obtain ⟨⟨q1, q2, q3⟩, q4⟩ := q
  have s36 : r.1 36 = σ.1 36 := q2.1 36 (by decide) (by decide) (by decide)
  have m3 : ∀ j : Nat, j ≤ 28 → r'.1 3 j = μ.1 3 j := fun j hj => q3.2.1 j (Or.inl (by omega))
  refine ⟨⟨q1, ?_, h3.of q2 q3 q4, h4.tr q2.c, h5.tr q3.m⟩, q2, q3⟩
  obtain ⟨c1, c2, c3, c4, c5, c6⟩ := h2
  unfold zCp
  rw [s36]
  exact ⟨fun j hj => (c1 j hj).trans (m3 j (by omega)).symm, c2.trans (m3 28 (by decide)).symm, c3.trans (m3 27 (by decide)).symm, c4, c5, c6⟩
theorem zsi_comm {ν : zSt} {k i j : Nat} {v w : Int32} (h : ¬ i = j) : zsi (zsi ν k i v) k j w = zsi (zsi ν k j w) k i v := by
  refine Prod.ext (funext fun a => funext fun b => ?_) rfl
  rw [zsi_at, zsi_at, zsi_at, zsi_at]
  by_cases q1 : a = k ∧ b = j
  · rw [if_pos q1, if_neg (fun r => h (r.2.symm.trans q1.2)), if_pos q1]
  · rw [if_neg q1, if_neg q1]
/-! fetching -/
theorem z2_growR (h : zS σ0 μ0 σ μ) : zp2 (fX5_growR σ ) (fX12_grows μ ) (fun r r' => zS σ0 μ0 r r' ∧ r = zsi σ 36 22 (r.1 36 22) ∧ r' = zsi μ 3 22 (r'.1 3 22)) := by
  unfold fX5_growR fX12_grows
  have e : zgi μ 3 (22 : Int32).toNatClampNeg = zgi σ 36 (22 : Int32).toNatClampNeg := (h.eq (j := 22) (by decide)).symm
  rw [e]
  refine zp2_ckl (zp2_ckl (zp2_ckl (zp2_bvl (fun σ1 e1 => zp2_ckr (zp2_ckr (zp2_ckr (zp2_bvr (fun μ1 f1 => zp2_some ⟨?_, ?_, ?_⟩))))))))
  · rw [e1, f1]
    exact h.setb (j := 22) rfl (by decide) (zr_or (lo := 0) (hi := 255) 8 (zr_andr (lo := 0) (hi := 128) (zr_c (lo := 128) (hi := 128) (by decide)) (by decide)) (zr_andr (lo := 0) (hi := 127) (zr_c (lo := 127) (hi := 127) (by decide)) (by decide)) (by decide))
  · rw [show σ1.1 36 22 = _ from (congrArg (fun s : zSt => s.1 36 22) e1).trans zsi_ej]; exact e1
  · rw [show μ1.1 3 22 = _ from (congrArg (fun s : zSt => s.1 3 22) f1).trans zsi_ej]; exact f1
theorem z2_next (h : zS σ0 μ0 σ μ) : zp2 (fX5_fetch σ ) (fX12_next μ ) (fun r r' => zS σ0 μ0 r.1 r'.1 ∧ r'.2 = r.2 ∧ zr 0 255 r.2) := by
  unfold fX5_fetch fX12_next
  have e : zgi μ 3 (19 : Int32).toNatClampNeg = zgi σ 36 (19 : Int32).toNatClampNeg := (h.eq (j := 19) (by decide)).symm
  refine zp2_ckl (zp2_ckr (zp2_bii (h.read e) (fun σ1 v μ1 w q => ?_)))
  obtain ⟨q1, q2, q3, q4⟩ := q
  have q1 : σ1 = σ := q1
  have q2 : μ1 = μ := q2
  subst q1
  subst q2
  rw [e]
  refine zp2_ckl (zp2_ckl (zp2_bvl (fun σ3 e3 => zp2_ckr (zp2_ckr (zp2_bvr (fun μ3 f3 => zp2_some ⟨?_, q3, q4⟩))))))
  show zS σ0 μ0 σ3 μ3
  rw [e3, f3]
  exact h.setw (j := 19) rfl (by decide) (by decide) (zr_andr (lo := 0) (hi := 65535) (zr_c (lo := 65535) (hi := 65535) (by decide)) (by decide))
end ZS
end ZJN12
section ZJN13
/-! frames, cell by cell -/
noncomputable def zcv (R : List Nat) (A : List (Nat × Nat × Nat)) (k j : Nat) : Bool := R.any (Nat.beq k) || A.any (fun e => Nat.beq e.1 k && (Nat.ble e.2.1 j && Nat.ble j e.2.2))
noncomputable def zQ (R : List Nat) (A : List (Nat × Nat × Nat)) (S : List Nat) (B : List (Nat × Nat × Nat)) (σ0 σ : zSt) : Prop := (∀ k j, zcv R A k j = false → σ.1 k j = σ0.1 k j) ∧ (∀ k j, zcv S B k j = false → σ.2 k j = σ0.2 k j)
section ZQ
variable {R S : List Nat} {A B : List (Nat × Nat × Nat)} {σ0 σ σ1 : zSt}
theorem zQ.rf : zQ R A S B σ σ := ⟨fun _ _ _ => rfl, fun _ _ _ => rfl⟩
theorem zQ.tr (h : zQ R A S B σ0 σ) (k : zQ R A S B σ σ1) : zQ R A S B σ0 σ1 := ⟨fun i j c => (k.1 i j c).trans (h.1 i j c), fun i j c => (k.2 i j c).trans (h.2 i j c)⟩
theorem zQ.wi (h : zQ R A S B σ0 σ) {k j : Nat} {v : Int32} (c : zcv R A k j = true) : zQ R A S B σ0 (zsi σ k j v) := by
  refine ⟨fun i l q => ?_, h.2⟩
  rw [zsi_off (fun r => by rw [r.1, r.2, c] at q; exact absurd q (by decide))]
  exact h.1 i l q
theorem zQ.wr (h : zQ R A S B σ0 σ) {k a b : Nat} {lo hi : Int} {x v : Int32} (hx : zr lo hi x) (m : A.any (fun e => Nat.beq e.1 k && (Nat.beq e.2.1 a && Nat.beq e.2.2 b)) = true) (c : (a : Int) ≤ lo ∧ hi ≤ (b : Int)) : zQ R A S B σ0 (zsi σ k x.toNatClampNeg v) := by
  refine h.wi ?_
  have h1 := hx.1
  have h2 := hx.2
  have kx := z_clamp (x := x) (by omega)
  unfold zcv
  rw [Bool.or_eq_true]
  right
  rw [List.any_eq_true] at m ⊢
  obtain ⟨e, e1, e2⟩ := m
  rw [Bool.and_eq_true, Bool.and_eq_true] at e2
  refine ⟨e, e1, ?_⟩
  rw [Bool.and_eq_true, Bool.and_eq_true]
  have a1 : e.2.1 = a := Nat.eq_of_beq_eq_true e2.2.1
  have b1 : e.2.2 = b := Nat.eq_of_beq_eq_true e2.2.2
  exact ⟨e2.1, Nat.ble_eq.mpr (by omega), Nat.ble_eq.mpr (by omega)⟩
theorem zr_ge {x c : Int32} {a b k : Int} (h : zr a b x) (hc : c.toInt = k) (q : c ≤ x) : zr k b x := ⟨by have := Int32.le_iff_toInt_le.mp q; omega, h.2⟩
theorem zr_nge {x c : Int32} {a b k m : Int} (h : zr a b x) (hc : c.toInt = k) (q : ¬ c ≤ x) (hm : k - 1 = m) : zr a m x := ⟨h.1, by have := Int32.lt_iff_toInt_lt.mp (z_nle q); omega⟩
theorem zsl_off {k j k1 j1 : Nat} {v : Int64} (h : ¬ (k1 = k ∧ j1 = j)) : (zsl σ k j v).2 k1 j1 = σ.2 k1 j1 := by
  show (bif Nat.beq k1 k then vp_updL (σ.2 k1) j v else σ.2 k1) j1 = _
  cases q : Nat.beq k1 k with
  | false => rfl
  | true =>
    show (if j1 = j then v else σ.2 k1 j1) = _
    rw [if_neg (fun r => h ⟨Nat.eq_of_beq_eq_true q, r⟩)]
theorem zQ.wl (h : zQ R A S B σ0 σ) {k j : Nat} {v : Int64} (c : zcv S B k j = true) : zQ R A S B σ0 (zsl σ k j v) := by
  refine ⟨h.1, fun i l q => ?_⟩
  rw [zsl_off (fun r => by rw [r.1, r.2, c] at q; exact absurd q (by decide))]
  exact h.2 i l q
end ZQ
theorem fd_fX9_height {σ0 : zSt} {σ : zSt} (h : (zQ [25, 27, 28, 29, 3] [(23, 15, 15)] [] []) σ0 σ) : zpc (fX9_height σ) (fun r => (zQ [25, 27, 28, 29, 3] [(23, 15, 15)] [] []) σ0 (r.1)) := by
  unfold fX9_height
  exact zpc_ck (zpc_if (fun _ => zpc_ck (zpc_if (fun _ => zpc_some h) (fun _ => zpc_if (fun _ => zpc_some h) (fun _ => zpc_some h)))) (fun _ => zpc_some h))
theorem fd_fX9_held_20 {σ0 : zSt} {σ : zSt} {s0 : Int32} (h : (zQ [25, 27, 28, 29, 3] [(23, 15, 15)] [] []) σ0 σ) : zpc (fX9_held_20 σ s0) (fun r => (zQ [25, 27, 28, 29, 3] [(23, 15, 15)] [] []) σ0 (r.1)) := by
  unfold fX9_held_20
  exact zpc_some h
theorem fd_fX9_held_19 {σ0 : zSt} {σ : zSt} (h : (zQ [25, 27, 28, 29, 3] [(23, 15, 15)] [] []) σ0 σ) : zpc (fX9_held_19 σ) (fun r => (zQ [25, 27, 28, 29, 3] [(23, 15, 15)] [] []) σ0 (r.1)) := by
  unfold fX9_held_19
  exact fd_fX9_held_20 h
theorem fd_fX9_held {σ0 : zSt} {σ : zSt} {x1 : Int32} (h : (zQ [25, 27, 28, 29, 3] [(23, 15, 15)] [] []) σ0 σ) : zpc (fX9_held σ x1) (fun r => (zQ [25, 27, 28, 29, 3] [(23, 15, 15)] [] []) σ0 (r.1)) := by
  unfold fX9_held
  exact zpc_if (fun _ => fd_fX9_held_19 h) (fun _ => zpc_if (fun _ => fd_fX9_held_19 h) (fun _ => zpc_ck (fd_fX9_held_20 h)))
theorem fd_fX9_mode_57 {σ0 : zSt} {σ : zSt} {s0 : Int32} (h : (zQ [25, 27, 28, 29, 3] [(23, 15, 15)] [] []) σ0 σ) : zpc (fX9_mode_57 σ s0) (fun r => (zQ [25, 27, 28, 29, 3] [(23, 15, 15)] [] []) σ0 (r.1)) := by
  unfold fX9_mode_57
  exact zpc_some h
theorem fd_fX9_mode {σ0 : zSt} {σ : zSt} (h : (zQ [25, 27, 28, 29, 3] [(23, 15, 15)] [] []) σ0 σ) : zpc (fX9_mode σ) (fun r => (zQ [25, 27, 28, 29, 3] [(23, 15, 15)] [] []) σ0 (r.1)) := by
  unfold fX9_mode
  exact zpc_ck (zpc_if (fun _ => zpc_ck (zpc_if (fun _ => zpc_ck (zpc_if (fun _ => zpc_ck (zpc_if (fun _ => fd_fX9_mode_57 h) (fun _ => fd_fX9_mode_57 h))) (fun _ => zpc_some h))) (fun _ => zpc_some h))) (fun _ => zpc_some h))
theorem fd_fJ7_fill_53178_k27_5_body {σ0 : zSt} {k5 : zSt → Int32 → Int32 → Int32 → Option (zSt)} (hk5 : ∀ (y0 : zSt) (y1 : Int32) (y2 : Int32) (y3 : Int32), (zQ [25, 27, 28, 29, 3] [(23, 15, 15)] [] []) σ0 y0 → zpc (k5 y0 y1 y2 y3) (fun r => (zQ [25, 27, 28, 29, 3] [(23, 15, 15)] [] []) σ0 (r))) {σ : zSt} {x1 : Int32} {x2 : Int32} {x3 : Int32} (h : (zQ [25, 27, 28, 29, 3] [(23, 15, 15)] [] []) σ0 σ) : zpc (fJ7_fill_53178_k27_5_body k5 σ x1 x2 x3) (fun r => (zQ [25, 27, 28, 29, 3] [(23, 15, 15)] [] []) σ0 (r)) := by
  unfold fJ7_fill_53178_k27_5_body
  exact zpc_if (fun _ => zpc_some h) (fun _ => zpc_ck (zpc_bs (zQ.wi h rfl) (fun σ1 hσ1 => zpc_bv (fun v2 _ => hk5 _ _ _ _ hσ1))))
theorem fd_fJ7_fill_53178_k27_5 {σ0 : zSt} : ∀ (n : Nat) (y0 : zSt) (y1 : Int32) (y2 : Int32) (y3 : Int32), (zQ [25, 27, 28, 29, 3] [(23, 15, 15)] [] []) σ0 y0 → zpc (fJ7_fill_53178_k27_5 n y0 y1 y2 y3) (fun r => (zQ [25, 27, 28, 29, 3] [(23, 15, 15)] [] []) σ0 (r)) := by
  intro n
  induction n with
  | zero => intro y0 y1 y2 y3 h; exact zpc_none
  | succ n ih => intro y0 y1 y2 y3 h; exact fd_fJ7_fill_53178_k27_5_body ih h
theorem fd_fJ7_fill_53178_k27 {σ0 : zSt} {σ : zSt} {x1 : Int32} (h : (zQ [25, 27, 28, 29, 3] [(23, 15, 15)] [] []) σ0 σ) : zpc (fJ7_fill_53178_k27 σ x1) (fun r => (zQ [25, 27, 28, 29, 3] [(23, 15, 15)] [] []) σ0 (r)) := by
  unfold fJ7_fill_53178_k27
  exact fd_fJ7_fill_53178_k27_5 _ _ _ _ _ h
theorem fd_fX3_mixColours_130 {σ0 : zSt} {k2 : zSt → Int32 → Int32 → Option (zSt)} (hk2 : ∀ (y0 : zSt) (y1 : Int32) (y2 : Int32), (zQ [25, 27, 28, 29, 3] [(23, 15, 15)] [] []) σ0 y0 → zpc (k2 y0 y1 y2) (fun r => (zQ [25, 27, 28, 29, 3] [(23, 15, 15)] [] []) σ0 (r))) {σ : zSt} {x1 : Int32} {x2 : Int32} (h : (zQ [25, 27, 28, 29, 3] [(23, 15, 15)] [] []) σ0 σ) : zpc (fX3_mixColours_130 k2 σ x1 x2) (fun r => (zQ [25, 27, 28, 29, 3] [(23, 15, 15)] [] []) σ0 (r)) := by
  unfold fX3_mixColours_130
  exact zpc_bv (fun v1 _ => hk2 _ _ _ h)
theorem fd_fX3_mixColours_78 {σ0 : zSt} {k2 : zSt → Int32 → Int32 → Option (zSt)} (hk2 : ∀ (y0 : zSt) (y1 : Int32) (y2 : Int32), (zQ [25, 27, 28, 29, 3] [(23, 15, 15)] [] []) σ0 y0 → zpc (k2 y0 y1 y2) (fun r => (zQ [25, 27, 28, 29, 3] [(23, 15, 15)] [] []) σ0 (r))) {σ : zSt} {x1 : Int32} {x2 : Int32} {s0 : Int32} {s1 : Int32} (h : (zQ [25, 27, 28, 29, 3] [(23, 15, 15)] [] []) σ0 σ) : zpc (fX3_mixColours_78 k2 σ x1 x2 s0 s1) (fun r => (zQ [25, 27, 28, 29, 3] [(23, 15, 15)] [] []) σ0 (r)) := by
  unfold fX3_mixColours_78
  exact zpc_ck (zpc_bs (zQ.wi h rfl) (fun σ2 hσ2 => fd_fX3_mixColours_130 hk2 hσ2))
theorem fd_fX3_mixColours_129 {σ0 : zSt} {k2 : zSt → Int32 → Int32 → Option (zSt)} (hk2 : ∀ (y0 : zSt) (y1 : Int32) (y2 : Int32), (zQ [25, 27, 28, 29, 3] [(23, 15, 15)] [] []) σ0 y0 → zpc (k2 y0 y1 y2) (fun r => (zQ [25, 27, 28, 29, 3] [(23, 15, 15)] [] []) σ0 (r))) {σ : zSt} {x1 : Int32} {x2 : Int32} {s0 : Int32} {s1 : Int32} (h : (zQ [25, 27, 28, 29, 3] [(23, 15, 15)] [] []) σ0 σ) : zpc (fX3_mixColours_129 k2 σ x1 x2 s0 s1) (fun r => (zQ [25, 27, 28, 29, 3] [(23, 15, 15)] [] []) σ0 (r)) := by
  unfold fX3_mixColours_129
  exact zpc_ck (zpc_bs (zQ.wi h rfl) (fun σ3 hσ3 => fd_fX3_mixColours_130 hk2 hσ3))
theorem fd_fX3_mixColours_2_body {σ0 : zSt} {k2 : zSt → Int32 → Int32 → Option (zSt)} (hk2 : ∀ (y0 : zSt) (y1 : Int32) (y2 : Int32), (zQ [25, 27, 28, 29, 3] [(23, 15, 15)] [] []) σ0 y0 → zpc (k2 y0 y1 y2) (fun r => (zQ [25, 27, 28, 29, 3] [(23, 15, 15)] [] []) σ0 (r))) {σ : zSt} {x1 : Int32} {x2 : Int32} (h : (zQ [25, 27, 28, 29, 3] [(23, 15, 15)] [] []) σ0 σ) : zpc (fX3_mixColours_2_body k2 σ x1 x2) (fun r => (zQ [25, 27, 28, 29, 3] [(23, 15, 15)] [] []) σ0 (r)) := by
  unfold fX3_mixColours_2_body
  exact zpc_if (fun _ => zpc_some h) (fun _ => zpc_if (fun _ => zpc_if (fun _ => zpc_bi (fd_fX9_held h) (fun σ5 v6 hσ5 => fd_fX3_mixColours_78 hk2 hσ5)) (fun _ => zpc_bi (fd_fX9_held h) (fun σ7 v8 hσ7 => zpc_bi (fd_fX9_held hσ7) (fun σ9 v10 hσ9 => fd_fX3_mixColours_78 hk2 hσ9)))) (fun _ => zpc_ck (zpc_bv (fun v4 _ => zpc_if (fun _ => fd_fX3_mixColours_129 hk2 h) (fun _ => fd_fX3_mixColours_129 hk2 h)))))
theorem fd_fX3_mixColours_2 {σ0 : zSt} : ∀ (n : Nat) (y0 : zSt) (y1 : Int32) (y2 : Int32), (zQ [25, 27, 28, 29, 3] [(23, 15, 15)] [] []) σ0 y0 → zpc (fX3_mixColours_2 n y0 y1 y2) (fun r => (zQ [25, 27, 28, 29, 3] [(23, 15, 15)] [] []) σ0 (r)) := by
  intro n
  induction n with
  | zero => intro y0 y1 y2 h; exact zpc_none
  | succ n ih => intro y0 y1 y2 h; exact fd_fX3_mixColours_2_body ih h
theorem fd_fX3_mixColours {σ0 : zSt} {σ : zSt} {x1 : Int32} (h : (zQ [25, 27, 28, 29, 3] [(23, 15, 15)] [] []) σ0 σ) : zpc (fX3_mixColours σ x1) (fun r => (zQ [25, 27, 28, 29, 3] [(23, 15, 15)] [] []) σ0 (r)) := by
  unfold fX3_mixColours
  exact fd_fX3_mixColours_2 _ _ _ _ h
theorem fd_fX9_vramByte {σ0 : zSt} {σ : zSt} {x1 : Int32} (h : (zQ [25, 27, 28, 29, 3] [(23, 15, 15)] [] []) σ0 σ) : zpc (fX9_vramByte σ x1) (fun r => (zQ [25, 27, 28, 29, 3] [(23, 15, 15)] [] []) σ0 (r.1)) := by
  unfold fX9_vramByte
  exact zpc_ck (zpc_some h)
theorem fd_fX3_takePlanes {σ0 : zSt} {σ : zSt} {x1 : Int32} (h : (zQ [25, 27, 28, 29, 3] [(23, 15, 15)] [] []) σ0 σ) : zpc (fX3_takePlanes σ x1) (fun r => (zQ [25, 27, 28, 29, 3] [(23, 15, 15)] [] []) σ0 (r)) := by
  unfold fX3_takePlanes
  exact zpc_bi (fd_fX9_vramByte h) (fun σ1 v2 hσ1 => zpc_bi (fd_fX9_vramByte hσ1) (fun σ3 v4 hσ3 => zpc_bi (fd_fX9_vramByte hσ3) (fun σ5 v6 hσ5 => zpc_bi (fd_fX9_vramByte hσ5) (fun σ7 v8 hσ7 => zpc_bs (zQ.wi hσ7 rfl) (fun σ9 hσ9 => zpc_some hσ9)))))
theorem fd_fX3_takeTile_60 {σ0 : zSt} {σ : zSt} {s0 : Int32} (h : (zQ [25, 27, 28, 29, 3] [(23, 15, 15)] [] []) σ0 σ) : zpc (fX3_takeTile_60 σ s0) (fun r => (zQ [25, 27, 28, 29, 3] [(23, 15, 15)] [] []) σ0 (r)) := by
  unfold fX3_takeTile_60
  exact zpc_bu (fd_fX3_takePlanes h) (fun σ1 hσ1 => zpc_some hσ1)
theorem fd_fX3_takeTile {σ0 : zSt} {σ : zSt} {x1 : Int32} {x2 : Int32} (h : (zQ [25, 27, 28, 29, 3] [(23, 15, 15)] [] []) σ0 σ) : zpc (fX3_takeTile σ x1 x2) (fun r => (zQ [25, 27, 28, 29, 3] [(23, 15, 15)] [] []) σ0 (r)) := by
  unfold fX3_takeTile
  exact zpc_bv (fun v2 _ => zpc_bi (fd_fX9_vramByte h) (fun σ3 v4 hσ3 => zpc_bi (fd_fX9_vramByte hσ3) (fun σ5 v6 hσ5 => zpc_bs (zQ.wi hσ5 rfl) (fun σ7 hσ7 => zpc_if (fun _ => fd_fX3_takeTile_60 hσ7) (fun _ => fd_fX3_takeTile_60 hσ7)))))
theorem fd_fX3_numberIn {σ0 : zSt} {σ : zSt} {x0 : Int32} {x1 : Int32} (h : (zQ [25, 27, 28, 29, 3] [(23, 15, 15)] [] []) σ0 σ) : zpc (fX3_numberIn σ x0 x1) (fun r => (zQ [25, 27, 28, 29, 3] [(23, 15, 15)] [] []) σ0 (r.1)) := by
  unfold fX3_numberIn
  exact zpc_bv (fun v1 _ => zpc_some h)
theorem fd_fX3_drawTiles_316 {σ0 : zSt} {k143 : zSt → Int32 → Int32 → Int32 → Int32 → Int32 → Int32 → Option (zSt)} (hk143 : ∀ (y0 : zSt) (y1 : Int32) (y2 : Int32) (y3 : Int32) (y4 : Int32) (y5 : Int32) (y6 : Int32), (zQ [25, 27, 28, 29, 3] [(23, 15, 15)] [] []) σ0 y0 → zpc (k143 y0 y1 y2 y3 y4 y5 y6) (fun r => (zQ [25, 27, 28, 29, 3] [(23, 15, 15)] [] []) σ0 (r))) {σ : zSt} {x1 : Int32} {x5 : Int32} {x6 : Int32} {x7 : Int32} {x8 : Int32} {x9 : Int32} {s0 : Int32} {s1 : Int32} {s2 : Int32} (h : (zQ [25, 27, 28, 29, 3] [(23, 15, 15)] [] []) σ0 σ) : zpc (fX3_drawTiles_316 k143 σ x1 x5 x6 x7 x8 x9 s0 s1 s2) (fun r => (zQ [25, 27, 28, 29, 3] [(23, 15, 15)] [] []) σ0 (r)) := by
  unfold fX3_drawTiles_316
  exact zpc_ck (zpc_bs (zQ.wi h rfl) (fun σ1 hσ1 => zpc_bv (fun v2 _ => hk143 _ _ _ _ _ _ _ hσ1)))
theorem fd_fX3_drawTiles_303 {σ0 : zSt} {k143 : zSt → Int32 → Int32 → Int32 → Int32 → Int32 → Int32 → Option (zSt)} (hk143 : ∀ (y0 : zSt) (y1 : Int32) (y2 : Int32) (y3 : Int32) (y4 : Int32) (y5 : Int32) (y6 : Int32), (zQ [25, 27, 28, 29, 3] [(23, 15, 15)] [] []) σ0 y0 → zpc (k143 y0 y1 y2 y3 y4 y5 y6) (fun r => (zQ [25, 27, 28, 29, 3] [(23, 15, 15)] [] []) σ0 (r))) {σ : zSt} {x1 : Int32} {x5 : Int32} {x6 : Int32} {x7 : Int32} {x8 : Int32} {x9 : Int32} {x13 : Int32} {s0 : Int32} {s1 : Int32} {s2 : Int32} (h : (zQ [25, 27, 28, 29, 3] [(23, 15, 15)] [] []) σ0 σ) : zpc (fX3_drawTiles_303 k143 σ x1 x5 x6 x7 x8 x9 x13 s0 s1 s2) (fun r => (zQ [25, 27, 28, 29, 3] [(23, 15, 15)] [] []) σ0 (r)) := by
  unfold fX3_drawTiles_303
  exact zpc_if (fun _ => fd_fX3_drawTiles_316 hk143 h) (fun _ => fd_fX3_drawTiles_316 hk143 h)
theorem fd_fX3_drawTiles_276 {σ0 : zSt} {k143 : zSt → Int32 → Int32 → Int32 → Int32 → Int32 → Int32 → Option (zSt)} (hk143 : ∀ (y0 : zSt) (y1 : Int32) (y2 : Int32) (y3 : Int32) (y4 : Int32) (y5 : Int32) (y6 : Int32), (zQ [25, 27, 28, 29, 3] [(23, 15, 15)] [] []) σ0 y0 → zpc (k143 y0 y1 y2 y3 y4 y5 y6) (fun r => (zQ [25, 27, 28, 29, 3] [(23, 15, 15)] [] []) σ0 (r))) {σ : zSt} {x1 : Int32} {x5 : Int32} {x6 : Int32} {x7 : Int32} {x8 : Int32} {x9 : Int32} {x12 : Int32} {s0 : Int32} (h : (zQ [25, 27, 28, 29, 3] [(23, 15, 15)] [] []) σ0 σ) : zpc (fX3_drawTiles_276 k143 σ x1 x5 x6 x7 x8 x9 x12 s0) (fun r => (zQ [25, 27, 28, 29, 3] [(23, 15, 15)] [] []) σ0 (r)) := by
  unfold fX3_drawTiles_276
  exact zpc_if (fun _ => fd_fX3_drawTiles_303 hk143 h) (fun _ => fd_fX3_drawTiles_303 hk143 h)
theorem fd_fX3_drawTiles_275 {σ0 : zSt} {k143 : zSt → Int32 → Int32 → Int32 → Int32 → Int32 → Int32 → Option (zSt)} (hk143 : ∀ (y0 : zSt) (y1 : Int32) (y2 : Int32) (y3 : Int32) (y4 : Int32) (y5 : Int32) (y6 : Int32), (zQ [25, 27, 28, 29, 3] [(23, 15, 15)] [] []) σ0 y0 → zpc (k143 y0 y1 y2 y3 y4 y5 y6) (fun r => (zQ [25, 27, 28, 29, 3] [(23, 15, 15)] [] []) σ0 (r))) {σ : zSt} {x1 : Int32} {x5 : Int32} {x6 : Int32} {x7 : Int32} {x8 : Int32} {x9 : Int32} {x12 : Int32} (h : (zQ [25, 27, 28, 29, 3] [(23, 15, 15)] [] []) σ0 σ) : zpc (fX3_drawTiles_275 k143 σ x1 x5 x6 x7 x8 x9 x12) (fun r => (zQ [25, 27, 28, 29, 3] [(23, 15, 15)] [] []) σ0 (r)) := by
  unfold fX3_drawTiles_275
  exact fd_fX3_drawTiles_276 hk143 h
theorem fd_fX3_drawTiles_242 {σ0 : zSt} {k143 : zSt → Int32 → Int32 → Int32 → Int32 → Int32 → Int32 → Option (zSt)} (hk143 : ∀ (y0 : zSt) (y1 : Int32) (y2 : Int32) (y3 : Int32) (y4 : Int32) (y5 : Int32) (y6 : Int32), (zQ [25, 27, 28, 29, 3] [(23, 15, 15)] [] []) σ0 y0 → zpc (k143 y0 y1 y2 y3 y4 y5 y6) (fun r => (zQ [25, 27, 28, 29, 3] [(23, 15, 15)] [] []) σ0 (r))) {σ : zSt} {x1 : Int32} {x5 : Int32} {x6 : Int32} {x7 : Int32} {x8 : Int32} {x9 : Int32} {s0 : Int32} (h : (zQ [25, 27, 28, 29, 3] [(23, 15, 15)] [] []) σ0 σ) : zpc (fX3_drawTiles_242 k143 σ x1 x5 x6 x7 x8 x9 s0) (fun r => (zQ [25, 27, 28, 29, 3] [(23, 15, 15)] [] []) σ0 (r)) := by
  unfold fX3_drawTiles_242
  exact zpc_bi (fd_fX3_numberIn h) (fun σ3 v4 hσ3 => zpc_if (fun _ => fd_fX3_drawTiles_275 hk143 hσ3) (fun _ => zpc_if (fun _ => fd_fX3_drawTiles_275 hk143 hσ3) (fun _ => fd_fX3_drawTiles_276 hk143 hσ3)))
theorem fd_fX3_drawTiles_215 {σ0 : zSt} {k143 : zSt → Int32 → Int32 → Int32 → Int32 → Int32 → Int32 → Option (zSt)} (hk143 : ∀ (y0 : zSt) (y1 : Int32) (y2 : Int32) (y3 : Int32) (y4 : Int32) (y5 : Int32) (y6 : Int32), (zQ [25, 27, 28, 29, 3] [(23, 15, 15)] [] []) σ0 y0 → zpc (k143 y0 y1 y2 y3 y4 y5 y6) (fun r => (zQ [25, 27, 28, 29, 3] [(23, 15, 15)] [] []) σ0 (r))) {σ : zSt} {x1 : Int32} {x5 : Int32} {x6 : Int32} {x7 : Int32} {x8 : Int32} {x9 : Int32} {x10 : Int32} (h : (zQ [25, 27, 28, 29, 3] [(23, 15, 15)] [] []) σ0 σ) : zpc (fX3_drawTiles_215 k143 σ x1 x5 x6 x7 x8 x9 x10) (fun r => (zQ [25, 27, 28, 29, 3] [(23, 15, 15)] [] []) σ0 (r)) := by
  unfold fX3_drawTiles_215
  exact zpc_if (fun _ => fd_fX3_drawTiles_242 hk143 h) (fun _ => fd_fX3_drawTiles_242 hk143 h)
theorem fd_fX3_drawTiles_212 {σ0 : zSt} {k143 : zSt → Int32 → Int32 → Int32 → Int32 → Int32 → Int32 → Option (zSt)} (hk143 : ∀ (y0 : zSt) (y1 : Int32) (y2 : Int32) (y3 : Int32) (y4 : Int32) (y5 : Int32) (y6 : Int32), (zQ [25, 27, 28, 29, 3] [(23, 15, 15)] [] []) σ0 y0 → zpc (k143 y0 y1 y2 y3 y4 y5 y6) (fun r => (zQ [25, 27, 28, 29, 3] [(23, 15, 15)] [] []) σ0 (r))) {σ : zSt} {x1 : Int32} {x5 : Int32} {x6 : Int32} {x7 : Int32} {x8 : Int32} {x9 : Int32} {x10 : Int32} {s0 : Int32} {s1 : Int32} (h : (zQ [25, 27, 28, 29, 3] [(23, 15, 15)] [] []) σ0 σ) : zpc (fX3_drawTiles_212 k143 σ x1 x5 x6 x7 x8 x9 x10 s0 s1) (fun r => (zQ [25, 27, 28, 29, 3] [(23, 15, 15)] [] []) σ0 (r)) := by
  unfold fX3_drawTiles_212
  exact zpc_bu (fd_fX3_takeTile h) (fun σ5 hσ5 => fd_fX3_drawTiles_215 hk143 hσ5)
theorem fd_fX3_drawTiles_210 {σ0 : zSt} {k143 : zSt → Int32 → Int32 → Int32 → Int32 → Int32 → Int32 → Option (zSt)} (hk143 : ∀ (y0 : zSt) (y1 : Int32) (y2 : Int32) (y3 : Int32) (y4 : Int32) (y5 : Int32) (y6 : Int32), (zQ [25, 27, 28, 29, 3] [(23, 15, 15)] [] []) σ0 y0 → zpc (k143 y0 y1 y2 y3 y4 y5 y6) (fun r => (zQ [25, 27, 28, 29, 3] [(23, 15, 15)] [] []) σ0 (r))) {σ : zSt} {x1 : Int32} {x5 : Int32} {x6 : Int32} {x7 : Int32} {x8 : Int32} {x9 : Int32} {x10 : Int32} {s0 : Int32} (h : (zQ [25, 27, 28, 29, 3] [(23, 15, 15)] [] []) σ0 σ) : zpc (fX3_drawTiles_210 k143 σ x1 x5 x6 x7 x8 x9 x10 s0) (fun r => (zQ [25, 27, 28, 29, 3] [(23, 15, 15)] [] []) σ0 (r)) := by
  unfold fX3_drawTiles_210
  exact fd_fX3_drawTiles_212 hk143 h
theorem fd_fX3_drawTiles_183 {σ0 : zSt} {k143 : zSt → Int32 → Int32 → Int32 → Int32 → Int32 → Int32 → Option (zSt)} (hk143 : ∀ (y0 : zSt) (y1 : Int32) (y2 : Int32) (y3 : Int32) (y4 : Int32) (y5 : Int32) (y6 : Int32), (zQ [25, 27, 28, 29, 3] [(23, 15, 15)] [] []) σ0 y0 → zpc (k143 y0 y1 y2 y3 y4 y5 y6) (fun r => (zQ [25, 27, 28, 29, 3] [(23, 15, 15)] [] []) σ0 (r))) {σ : zSt} {x1 : Int32} {x5 : Int32} {x6 : Int32} {x7 : Int32} {x8 : Int32} {x9 : Int32} {x10 : Int32} (h : (zQ [25, 27, 28, 29, 3] [(23, 15, 15)] [] []) σ0 σ) : zpc (fX3_drawTiles_183 k143 σ x1 x5 x6 x7 x8 x9 x10) (fun r => (zQ [25, 27, 28, 29, 3] [(23, 15, 15)] [] []) σ0 (r)) := by
  unfold fX3_drawTiles_183
  exact zpc_if (fun _ => fd_fX3_drawTiles_210 hk143 h) (fun _ => zpc_if (fun _ => fd_fX3_drawTiles_210 hk143 h) (fun _ => fd_fX3_drawTiles_212 hk143 h))
theorem fd_fX3_drawTiles_143_body {σ0 : zSt} {k143 : zSt → Int32 → Int32 → Int32 → Int32 → Int32 → Int32 → Option (zSt)} (hk143 : ∀ (y0 : zSt) (y1 : Int32) (y2 : Int32) (y3 : Int32) (y4 : Int32) (y5 : Int32) (y6 : Int32), (zQ [25, 27, 28, 29, 3] [(23, 15, 15)] [] []) σ0 y0 → zpc (k143 y0 y1 y2 y3 y4 y5 y6) (fun r => (zQ [25, 27, 28, 29, 3] [(23, 15, 15)] [] []) σ0 (r))) {σ : zSt} {x1 : Int32} {x5 : Int32} {x6 : Int32} {x7 : Int32} {x8 : Int32} {x9 : Int32} (h : (zQ [25, 27, 28, 29, 3] [(23, 15, 15)] [] []) σ0 σ) : zpc (fX3_drawTiles_143_body k143 σ x1 x5 x6 x7 x8 x9) (fun r => (zQ [25, 27, 28, 29, 3] [(23, 15, 15)] [] []) σ0 (r)) := by
  unfold fX3_drawTiles_143_body
  exact zpc_if (fun _ => zpc_some h) (fun _ => zpc_bv (fun v6 _ => zpc_if (fun _ => fd_fX3_drawTiles_183 hk143 h) (fun _ => zpc_if (fun _ => fd_fX3_drawTiles_183 hk143 h) (fun _ => zpc_if (fun _ => fd_fX3_drawTiles_183 hk143 h) (fun _ => fd_fX3_drawTiles_215 hk143 h)))))
theorem fd_fX3_drawTiles_143 {σ0 : zSt} : ∀ (n : Nat) (y0 : zSt) (y1 : Int32) (y2 : Int32) (y3 : Int32) (y4 : Int32) (y5 : Int32) (y6 : Int32), (zQ [25, 27, 28, 29, 3] [(23, 15, 15)] [] []) σ0 y0 → zpc (fX3_drawTiles_143 n y0 y1 y2 y3 y4 y5 y6) (fun r => (zQ [25, 27, 28, 29, 3] [(23, 15, 15)] [] []) σ0 (r)) := by
  intro n
  induction n with
  | zero => intro y0 y1 y2 y3 y4 y5 y6 h; exact zpc_none
  | succ n ih => intro y0 y1 y2 y3 y4 y5 y6 h; exact fd_fX3_drawTiles_143_body ih h
theorem fd_fX3_drawTiles_138 {σ0 : zSt} {σ : zSt} {x1 : Int32} {x5 : Int32} {x6 : Int32} {x7 : Int32} {s0 : Int32} (h : (zQ [25, 27, 28, 29, 3] [(23, 15, 15)] [] []) σ0 σ) : zpc (fX3_drawTiles_138 σ x1 x5 x6 x7 s0) (fun r => (zQ [25, 27, 28, 29, 3] [(23, 15, 15)] [] []) σ0 (r)) := by
  unfold fX3_drawTiles_138
  exact fd_fX3_drawTiles_143 _ _ _ _ _ _ _ _ h
theorem fd_fX3_drawTiles_122 {σ0 : zSt} {σ : zSt} {x1 : Int32} {x3 : Int32} {x5 : Int32} {x6 : Int32} {s0 : Int32} {s1 : Int32} (h : (zQ [25, 27, 28, 29, 3] [(23, 15, 15)] [] []) σ0 σ) : zpc (fX3_drawTiles_122 σ x1 x3 x5 x6 s0 s1) (fun r => (zQ [25, 27, 28, 29, 3] [(23, 15, 15)] [] []) σ0 (r)) := by
  unfold fX3_drawTiles_122
  exact zpc_ck (zpc_bv (fun v7 _ => zpc_if (fun _ => fd_fX3_drawTiles_138 h) (fun _ => fd_fX3_drawTiles_138 h)))
theorem fd_fX3_drawTiles_96 {σ0 : zSt} {σ : zSt} {x1 : Int32} {x2 : Int32} {x3 : Int32} {x5 : Int32} {s0 : Int32} (h : (zQ [25, 27, 28, 29, 3] [(23, 15, 15)] [] []) σ0 σ) : zpc (fX3_drawTiles_96 σ x1 x2 x3 x5 s0) (fun r => (zQ [25, 27, 28, 29, 3] [(23, 15, 15)] [] []) σ0 (r)) := by
  unfold fX3_drawTiles_96
  exact zpc_bi (fd_fX9_held h) (fun σ8 v9 hσ8 => zpc_if (fun _ => fd_fX3_drawTiles_122 hσ8) (fun _ => fd_fX3_drawTiles_122 hσ8))
theorem fd_fX3_drawTiles_87 {σ0 : zSt} {σ : zSt} {x1 : Int32} {x2 : Int32} {x3 : Int32} {x5 : Int32} (h : (zQ [25, 27, 28, 29, 3] [(23, 15, 15)] [] []) σ0 σ) : zpc (fX3_drawTiles_87 σ x1 x2 x3 x5) (fun r => (zQ [25, 27, 28, 29, 3] [(23, 15, 15)] [] []) σ0 (r)) := by
  unfold fX3_drawTiles_87
  exact zpc_bi (fd_fX9_held h) (fun σ10 v11 hσ10 => fd_fX3_drawTiles_96 hσ10)
theorem fd_fX3_drawTiles_68 {σ0 : zSt} {σ : zSt} {x1 : Int32} {x2 : Int32} {x3 : Int32} {s0 : Int32} (h : (zQ [25, 27, 28, 29, 3] [(23, 15, 15)] [] []) σ0 σ) : zpc (fX3_drawTiles_68 σ x1 x2 x3 s0) (fun r => (zQ [25, 27, 28, 29, 3] [(23, 15, 15)] [] []) σ0 (r)) := by
  unfold fX3_drawTiles_68
  exact zpc_if (fun _ => fd_fX3_drawTiles_87 h) (fun _ => zpc_if (fun _ => fd_fX3_drawTiles_87 h) (fun _ => fd_fX3_drawTiles_96 h))
theorem fd_fX3_drawTiles_18 {σ0 : zSt} {σ : zSt} {x1 : Int32} {s0 : Int32} (h : (zQ [25, 27, 28, 29, 3] [(23, 15, 15)] [] []) σ0 σ) : zpc (fX3_drawTiles_18 σ x1 s0) (fun r => (zQ [25, 27, 28, 29, 3] [(23, 15, 15)] [] []) σ0 (r)) := by
  unfold fX3_drawTiles_18
  exact zpc_bi (fd_fX9_held h) (fun σ12 v13 hσ12 => zpc_bi (fd_fX9_held hσ12) (fun σ14 v15 hσ14 => zpc_if (fun _ => fd_fX3_drawTiles_68 hσ14) (fun _ => fd_fX3_drawTiles_68 hσ14)))
theorem fd_fX3_drawTiles {σ0 : zSt} {σ : zSt} {x1 : Int32} (h : (zQ [25, 27, 28, 29, 3] [(23, 15, 15)] [] []) σ0 σ) : zpc (fX3_drawTiles σ x1) (fun r => (zQ [25, 27, 28, 29, 3] [(23, 15, 15)] [] []) σ0 (r)) := by
  unfold fX3_drawTiles
  exact zpc_bi (fd_fX9_height h) (fun σ16 v17 hσ16 => zpc_if (fun _ => fd_fX3_drawTiles_18 hσ16) (fun _ => fd_fX3_drawTiles_18 hσ16))
theorem fd_fJ7_fill_53178_k28_5_body {σ0 : zSt} {k5 : zSt → Int32 → Int32 → Int32 → Option (zSt)} (hk5 : ∀ (y0 : zSt) (y1 : Int32) (y2 : Int32) (y3 : Int32), (zQ [25, 27, 28, 29, 3] [(23, 15, 15)] [] []) σ0 y0 → zpc (k5 y0 y1 y2 y3) (fun r => (zQ [25, 27, 28, 29, 3] [(23, 15, 15)] [] []) σ0 (r))) {σ : zSt} {x1 : Int32} {x2 : Int32} {x3 : Int32} (h : (zQ [25, 27, 28, 29, 3] [(23, 15, 15)] [] []) σ0 σ) : zpc (fJ7_fill_53178_k28_5_body k5 σ x1 x2 x3) (fun r => (zQ [25, 27, 28, 29, 3] [(23, 15, 15)] [] []) σ0 (r)) := by
  unfold fJ7_fill_53178_k28_5_body
  exact zpc_if (fun _ => zpc_some h) (fun _ => zpc_ck (zpc_bs (zQ.wi h rfl) (fun σ1 hσ1 => zpc_bv (fun v2 _ => hk5 _ _ _ _ hσ1))))
theorem fd_fJ7_fill_53178_k28_5 {σ0 : zSt} : ∀ (n : Nat) (y0 : zSt) (y1 : Int32) (y2 : Int32) (y3 : Int32), (zQ [25, 27, 28, 29, 3] [(23, 15, 15)] [] []) σ0 y0 → zpc (fJ7_fill_53178_k28_5 n y0 y1 y2 y3) (fun r => (zQ [25, 27, 28, 29, 3] [(23, 15, 15)] [] []) σ0 (r)) := by
  intro n
  induction n with
  | zero => intro y0 y1 y2 y3 h; exact zpc_none
  | succ n ih => intro y0 y1 y2 y3 h; exact fd_fJ7_fill_53178_k28_5_body ih h
theorem fd_fJ7_fill_53178_k28 {σ0 : zSt} {σ : zSt} {x1 : Int32} (h : (zQ [25, 27, 28, 29, 3] [(23, 15, 15)] [] []) σ0 σ) : zpc (fJ7_fill_53178_k28 σ x1) (fun r => (zQ [25, 27, 28, 29, 3] [(23, 15, 15)] [] []) σ0 (r)) := by
  unfold fJ7_fill_53178_k28
  exact fd_fJ7_fill_53178_k28_5 _ _ _ _ _ h
theorem fd_fX3_rowOfSprite_56 {σ0 : zSt} {σ : zSt} {s0 : Int32} (h : (zQ [25, 27, 28, 29, 3] [(23, 15, 15)] [] []) σ0 σ) : zpc (fX3_rowOfSprite_56 σ s0) (fun r => (zQ [25, 27, 28, 29, 3] [(23, 15, 15)] [] []) σ0 (r.1)) := by
  unfold fX3_rowOfSprite_56
  exact zpc_some h
theorem fd_fX3_rowOfSprite_47 {σ0 : zSt} {σ : zSt} {x4 : Int32} {s0 : Int32} {s1 : Int32} (h : (zQ [25, 27, 28, 29, 3] [(23, 15, 15)] [] []) σ0 σ) : zpc (fX3_rowOfSprite_47 σ x4 s0 s1) (fun r => (zQ [25, 27, 28, 29, 3] [(23, 15, 15)] [] []) σ0 (r.1)) := by
  unfold fX3_rowOfSprite_47
  exact zpc_if (fun _ => fd_fX3_rowOfSprite_56 h) (fun _ => fd_fX3_rowOfSprite_56 h)
theorem fd_fX3_rowOfSprite_32 {σ0 : zSt} {σ : zSt} {x3 : Int32} {x4 : Int32} (h : (zQ [25, 27, 28, 29, 3] [(23, 15, 15)] [] []) σ0 σ) : zpc (fX3_rowOfSprite_32 σ x3 x4) (fun r => (zQ [25, 27, 28, 29, 3] [(23, 15, 15)] [] []) σ0 (r.1)) := by
  unfold fX3_rowOfSprite_32
  exact zpc_if (fun _ => fd_fX3_rowOfSprite_47 h) (fun _ => fd_fX3_rowOfSprite_47 h)
theorem fd_fX3_rowOfSprite {σ0 : zSt} {σ : zSt} {x1 : Int32} {x2 : Int32} (h : (zQ [25, 27, 28, 29, 3] [(23, 15, 15)] [] []) σ0 σ) : zpc (fX3_rowOfSprite σ x1 x2) (fun r => (zQ [25, 27, 28, 29, 3] [(23, 15, 15)] [] []) σ0 (r.1)) := by
  unfold fX3_rowOfSprite
  exact zpc_bi (fd_fX9_held h) (fun σ1 v2 hσ1 => zpc_bv (fun v3 _ => zpc_if (fun _ => fd_fX3_rowOfSprite_32 hσ1) (fun _ => zpc_bv (fun v4 _ => fd_fX3_rowOfSprite_32 hσ1))))
theorem fd_fX9_mark {σ0 : zSt} {σ : zSt} {x1 : Int32} (h : (zQ [25, 27, 28, 29, 3] [(23, 15, 15)] [] []) σ0 σ) : zpc (fX9_mark σ x1) (fun r => (zQ [25, 27, 28, 29, 3] [(23, 15, 15)] [] []) σ0 (r)) := by
  unfold fX9_mark
  exact zpc_ck (zpc_ck (zpc_bs (zQ.wi h rfl) (fun σ1 hσ1 => zpc_some hσ1)))
theorem fd_fX3_drawSprite_190 {σ0 : zSt} {k111 : zSt → Int32 → Int32 → Int32 → Option (zSt)} (hk111 : ∀ (y0 : zSt) (y1 : Int32) (y2 : Int32) (y3 : Int32), (zQ [25, 27, 28, 29, 3] [(23, 15, 15)] [] []) σ0 y0 → zpc (k111 y0 y1 y2 y3) (fun r => (zQ [25, 27, 28, 29, 3] [(23, 15, 15)] [] []) σ0 (r))) {σ : zSt} {x3 : Int32} {x6 : Int32} {x7 : Int32} (h : (zQ [25, 27, 28, 29, 3] [(23, 15, 15)] [] []) σ0 σ) : zpc (fX3_drawSprite_190 k111 σ x3 x6 x7) (fun r => (zQ [25, 27, 28, 29, 3] [(23, 15, 15)] [] []) σ0 (r)) := by
  unfold fX3_drawSprite_190
  exact zpc_bv (fun v1 _ => hk111 _ _ _ _ h)
theorem fd_fX3_drawSprite_111_body {σ0 : zSt} {k111 : zSt → Int32 → Int32 → Int32 → Option (zSt)} (hk111 : ∀ (y0 : zSt) (y1 : Int32) (y2 : Int32) (y3 : Int32), (zQ [25, 27, 28, 29, 3] [(23, 15, 15)] [] []) σ0 y0 → zpc (k111 y0 y1 y2 y3) (fun r => (zQ [25, 27, 28, 29, 3] [(23, 15, 15)] [] []) σ0 (r))) {σ : zSt} {x3 : Int32} {x6 : Int32} {x7 : Int32} (h : (zQ [25, 27, 28, 29, 3] [(23, 15, 15)] [] []) σ0 σ) : zpc (fX3_drawSprite_111_body k111 σ x3 x6 x7) (fun r => (zQ [25, 27, 28, 29, 3] [(23, 15, 15)] [] []) σ0 (r)) := by
  unfold fX3_drawSprite_111_body
  exact zpc_if (fun _ => zpc_some h) (fun _ => zpc_bv (fun v2 _ => zpc_bi (fd_fX3_numberIn h) (fun σ3 v4 hσ3 => zpc_if (fun _ => fd_fX3_drawSprite_190 hk111 hσ3) (fun _ => zpc_if (fun _ => fd_fX3_drawSprite_190 hk111 hσ3) (fun _ => zpc_if (fun _ => fd_fX3_drawSprite_190 hk111 hσ3) (fun _ => zpc_ck (zpc_if (fun _ => zpc_ck (zpc_bs (zQ.wi hσ3 rfl) (fun σ5 hσ5 => fd_fX3_drawSprite_190 hk111 hσ5))) (fun _ => zpc_bu (fd_fX9_mark hσ3) (fun σ6 hσ6 => fd_fX3_drawSprite_190 hk111 hσ6)))))))))
theorem fd_fX3_drawSprite_111 {σ0 : zSt} : ∀ (n : Nat) (y0 : zSt) (y1 : Int32) (y2 : Int32) (y3 : Int32), (zQ [25, 27, 28, 29, 3] [(23, 15, 15)] [] []) σ0 y0 → zpc (fX3_drawSprite_111 n y0 y1 y2 y3) (fun r => (zQ [25, 27, 28, 29, 3] [(23, 15, 15)] [] []) σ0 (r)) := by
  intro n
  induction n with
  | zero => intro y0 y1 y2 y3 h; exact zpc_none
  | succ n ih => intro y0 y1 y2 y3 h; exact fd_fX3_drawSprite_111_body ih h
theorem fd_fX3_drawSprite_100 {σ0 : zSt} {σ : zSt} {x2 : Int32} {x3 : Int32} {x6 : Int32} {s0 : Int32} {s1 : Int32} (h : (zQ [25, 27, 28, 29, 3] [(23, 15, 15)] [] []) σ0 σ) : zpc (fX3_drawSprite_100 σ x2 x3 x6 s0 s1) (fun r => (zQ [25, 27, 28, 29, 3] [(23, 15, 15)] [] []) σ0 (r)) := by
  unfold fX3_drawSprite_100
  exact zpc_bu (fd_fX3_takePlanes h) (fun σ7 hσ7 => fd_fX3_drawSprite_111 _ _ _ _ _ hσ7)
theorem fd_fX3_drawSprite_61 {σ0 : zSt} {σ : zSt} {x2 : Int32} {x3 : Int32} {s0 : Int32} {s1 : Int32} (h : (zQ [25, 27, 28, 29, 3] [(23, 15, 15)] [] []) σ0 σ) : zpc (fX3_drawSprite_61 σ x2 x3 s0 s1) (fun r => (zQ [25, 27, 28, 29, 3] [(23, 15, 15)] [] []) σ0 (r)) := by
  unfold fX3_drawSprite_61
  exact zpc_bv (fun v8 _ => zpc_bi (fd_fX9_held h) (fun σ9 v10 hσ9 => zpc_bv (fun v11 _ => zpc_if (fun _ => fd_fX3_drawSprite_100 hσ9) (fun _ => fd_fX3_drawSprite_100 hσ9))))
theorem fd_fX3_drawSprite_28 {σ0 : zSt} {σ : zSt} {x1 : Int32} {x2 : Int32} {s0 : Int32} {s1 : Int32} (h : (zQ [25, 27, 28, 29, 3] [(23, 15, 15)] [] []) σ0 σ) : zpc (fX3_drawSprite_28 σ x1 x2 s0 s1) (fun r => (zQ [25, 27, 28, 29, 3] [(23, 15, 15)] [] []) σ0 (r)) := by
  unfold fX3_drawSprite_28
  exact zpc_bv (fun v12 _ => zpc_bi (fd_fX9_vramByte h) (fun σ13 v14 hσ13 => zpc_bi (fd_fX9_held hσ13) (fun σ15 v16 hσ15 => zpc_if (fun _ => fd_fX3_drawSprite_61 hσ15) (fun _ => fd_fX3_drawSprite_61 hσ15))))
theorem fd_fX3_drawSprite {σ0 : zSt} {σ : zSt} {x1 : Int32} {x2 : Int32} (h : (zQ [25, 27, 28, 29, 3] [(23, 15, 15)] [] []) σ0 σ) : zpc (fX3_drawSprite σ x1 x2) (fun r => (zQ [25, 27, 28, 29, 3] [(23, 15, 15)] [] []) σ0 (r)) := by
  unfold fX3_drawSprite
  exact zpc_bi (fd_fX9_vramByte h) (fun σ17 v18 hσ17 => zpc_bi (fd_fX9_held hσ17) (fun σ19 v20 hσ19 => zpc_if (fun _ => fd_fX3_drawSprite_28 hσ19) (fun _ => fd_fX3_drawSprite_28 hσ19)))
theorem fd_fX3_drawSprites_196 {σ0 : zSt} {k147 : zSt → Int32 → Option (zSt)} (hk147 : ∀ (y0 : zSt) (y1 : Int32), (zQ [25, 27, 28, 29, 3] [(23, 15, 15)] [] []) σ0 y0 → zpc (k147 y0 y1) (fun r => (zQ [25, 27, 28, 29, 3] [(23, 15, 15)] [] []) σ0 (r))) {σ : zSt} {x5 : Int32} (h : (zQ [25, 27, 28, 29, 3] [(23, 15, 15)] [] []) σ0 σ) : zpc (fX3_drawSprites_196 k147 σ x5) (fun r => (zQ [25, 27, 28, 29, 3] [(23, 15, 15)] [] []) σ0 (r)) := by
  unfold fX3_drawSprites_196
  exact zpc_bv (fun v1 _ => hk147 _ _ h)
theorem fd_fX3_drawSprites_147_body {σ0 : zSt} {k147 : zSt → Int32 → Option (zSt)} (hk147 : ∀ (y0 : zSt) (y1 : Int32), (zQ [25, 27, 28, 29, 3] [(23, 15, 15)] [] []) σ0 y0 → zpc (k147 y0 y1) (fun r => (zQ [25, 27, 28, 29, 3] [(23, 15, 15)] [] []) σ0 (r))) {σ : zSt} {x5 : Int32} (h : (zQ [25, 27, 28, 29, 3] [(23, 15, 15)] [] []) σ0 σ) : zpc (fX3_drawSprites_147_body k147 σ x5) (fun r => (zQ [25, 27, 28, 29, 3] [(23, 15, 15)] [] []) σ0 (r)) := by
  unfold fX3_drawSprites_147_body
  exact zpc_if (fun _ => zpc_some h) (fun _ => zpc_ck (zpc_if (fun _ => fd_fX3_drawSprites_196 hk147 h) (fun _ => zpc_ck (zpc_if (fun _ => zpc_ck (zpc_ck (zpc_bs (zQ.wi h rfl) (fun σ2 hσ2 => fd_fX3_drawSprites_196 hk147 hσ2)))) (fun _ => fd_fX3_drawSprites_196 hk147 h)))))
theorem fd_fX3_drawSprites_147 {σ0 : zSt} : ∀ (n : Nat) (y0 : zSt) (y1 : Int32), (zQ [25, 27, 28, 29, 3] [(23, 15, 15)] [] []) σ0 y0 → zpc (fX3_drawSprites_147 n y0 y1) (fun r => (zQ [25, 27, 28, 29, 3] [(23, 15, 15)] [] []) σ0 (r)) := by
  intro n
  induction n with
  | zero => intro y0 y1 h; exact zpc_none
  | succ n ih => intro y0 y1 h; exact fd_fX3_drawSprites_147_body ih h
theorem fd_fX3_drawSprites_144 {σ0 : zSt} {σ : zSt} (h : (zQ [25, 27, 28, 29, 3] [(23, 15, 15)] [] []) σ0 σ) : zpc (fX3_drawSprites_144 σ) (fun r => (zQ [25, 27, 28, 29, 3] [(23, 15, 15)] [] []) σ0 (r)) := by
  unfold fX3_drawSprites_144
  exact fd_fX3_drawSprites_147 _ _ _ h
theorem fd_fX3_drawSprites_138 {σ0 : zSt} {k51 : zSt → Int32 → Int32 → Int32 → Int32 → Int32 → Option (zSt)} (hk51 : ∀ (y0 : zSt) (y1 : Int32) (y2 : Int32) (y3 : Int32) (y4 : Int32) (y5 : Int32), (zQ [25, 27, 28, 29, 3] [(23, 15, 15)] [] []) σ0 y0 → zpc (k51 y0 y1 y2 y3 y4 y5) (fun r => (zQ [25, 27, 28, 29, 3] [(23, 15, 15)] [] []) σ0 (r))) {σ : zSt} {x1 : Int32} {x2 : Int32} {x3 : Int32} {x4 : Int32} {x5 : Int32} (h : (zQ [25, 27, 28, 29, 3] [(23, 15, 15)] [] []) σ0 σ) : zpc (fX3_drawSprites_138 k51 σ x1 x2 x3 x4 x5) (fun r => (zQ [25, 27, 28, 29, 3] [(23, 15, 15)] [] []) σ0 (r)) := by
  unfold fX3_drawSprites_138
  exact zpc_bv (fun v3 _ => hk51 _ _ _ _ _ _ h)
theorem fd_fX3_drawSprites_86 {σ0 : zSt} {k51 : zSt → Int32 → Int32 → Int32 → Int32 → Int32 → Option (zSt)} (hk51 : ∀ (y0 : zSt) (y1 : Int32) (y2 : Int32) (y3 : Int32) (y4 : Int32) (y5 : Int32), (zQ [25, 27, 28, 29, 3] [(23, 15, 15)] [] []) σ0 y0 → zpc (k51 y0 y1 y2 y3 y4 y5) (fun r => (zQ [25, 27, 28, 29, 3] [(23, 15, 15)] [] []) σ0 (r))) {σ : zSt} {x1 : Int32} {x2 : Int32} {x3 : Int32} {x4 : Int32} {x5 : Int32} {x6 : Int32} (h : (zQ [25, 27, 28, 29, 3] [(23, 15, 15)] [] []) σ0 σ) : zpc (fX3_drawSprites_86 k51 σ x1 x2 x3 x4 x5 x6) (fun r => (zQ [25, 27, 28, 29, 3] [(23, 15, 15)] [] []) σ0 (r)) := by
  unfold fX3_drawSprites_86
  exact zpc_bi (fd_fX3_rowOfSprite h) (fun σ4 v5 hσ4 => zpc_if (fun _ => fd_fX3_drawSprites_138 hk51 hσ4) (fun _ => zpc_bv (fun v6 _ => zpc_if (fun _ => zpc_bu (fd_fX3_drawSprite hσ4) (fun σ7 hσ7 => fd_fX3_drawSprites_138 hk51 hσ7)) (fun _ => zpc_bu (fd_fX9_mark hσ4) (fun σ8 hσ8 => fd_fX3_drawSprites_144 hσ8)))))
theorem fd_fX3_drawSprites_51_body {σ0 : zSt} {k51 : zSt → Int32 → Int32 → Int32 → Int32 → Int32 → Option (zSt)} (hk51 : ∀ (y0 : zSt) (y1 : Int32) (y2 : Int32) (y3 : Int32) (y4 : Int32) (y5 : Int32), (zQ [25, 27, 28, 29, 3] [(23, 15, 15)] [] []) σ0 y0 → zpc (k51 y0 y1 y2 y3 y4 y5) (fun r => (zQ [25, 27, 28, 29, 3] [(23, 15, 15)] [] []) σ0 (r))) {σ : zSt} {x1 : Int32} {x2 : Int32} {x3 : Int32} {x4 : Int32} {x5 : Int32} (h : (zQ [25, 27, 28, 29, 3] [(23, 15, 15)] [] []) σ0 σ) : zpc (fX3_drawSprites_51_body k51 σ x1 x2 x3 x4 x5) (fun r => (zQ [25, 27, 28, 29, 3] [(23, 15, 15)] [] []) σ0 (r)) := by
  unfold fX3_drawSprites_51_body
  exact zpc_if (fun _ => fd_fX3_drawSprites_144 h) (fun _ => zpc_bi (fd_fX9_vramByte h) (fun σ9 v10 hσ9 => zpc_if (fun _ => fd_fX3_drawSprites_86 hk51 hσ9) (fun _ => zpc_if (fun _ => fd_fX3_drawSprites_144 hσ9) (fun _ => fd_fX3_drawSprites_86 hk51 hσ9))))
theorem fd_fX3_drawSprites_51 {σ0 : zSt} : ∀ (n : Nat) (y0 : zSt) (y1 : Int32) (y2 : Int32) (y3 : Int32) (y4 : Int32) (y5 : Int32), (zQ [25, 27, 28, 29, 3] [(23, 15, 15)] [] []) σ0 y0 → zpc (fX3_drawSprites_51 n y0 y1 y2 y3 y4 y5) (fun r => (zQ [25, 27, 28, 29, 3] [(23, 15, 15)] [] []) σ0 (r)) := by
  intro n
  induction n with
  | zero => intro y0 y1 y2 y3 y4 y5 h; exact zpc_none
  | succ n ih => intro y0 y1 y2 y3 y4 y5 h; exact fd_fX3_drawSprites_51_body ih h
theorem fd_fX3_drawSprites_44 {σ0 : zSt} {σ : zSt} {x1 : Int32} {x2 : Int32} {s0 : Int32} (h : (zQ [25, 27, 28, 29, 3] [(23, 15, 15)] [] []) σ0 σ) : zpc (fX3_drawSprites_44 σ x1 x2 s0) (fun r => (zQ [25, 27, 28, 29, 3] [(23, 15, 15)] [] []) σ0 (r)) := by
  unfold fX3_drawSprites_44
  exact fd_fX3_drawSprites_51 _ _ _ _ _ _ _ h
theorem fd_fX3_drawSprites {σ0 : zSt} {σ : zSt} {x1 : Int32} (h : (zQ [25, 27, 28, 29, 3] [(23, 15, 15)] [] []) σ0 σ) : zpc (fX3_drawSprites σ x1) (fun r => (zQ [25, 27, 28, 29, 3] [(23, 15, 15)] [] []) σ0 (r)) := by
  unfold fX3_drawSprites
  exact zpc_bu (fd_fJ7_fill_53178_k28 h) (fun σ11 hσ11 => zpc_bi (fd_fX9_held hσ11) (fun σ12 v13 hσ12 => zpc_bv (fun v14 _ => zpc_bi (fd_fX9_height hσ12) (fun σ15 v16 hσ15 => zpc_if (fun _ => fd_fX3_drawSprites_44 hσ15) (fun _ => fd_fX3_drawSprites_44 hσ15)))))
theorem fd_fJ7_rangeCheck_23922 {σ0 : zSt} {σ : zSt} {x0 : Int32} {x1 : Int32} {x2 : Int32} (h : (zQ [25, 27, 28, 29, 3] [(23, 15, 15)] [] []) σ0 σ) : zpc (fJ7_rangeCheck_23922 σ x0 x1 x2) (fun r => (zQ [25, 27, 28, 29, 3] [(23, 15, 15)] [] []) σ0 (r)) := by
  unfold fJ7_rangeCheck_23922
  exact zpc_if (fun _ => zpc_if (fun _ => zpc_if (fun _ => zpc_some h) (fun _ => zpc_none)) (fun _ => zpc_none)) (fun _ => zpc_none)
theorem fd_fJ7_fill_fda19_k27_10_body {σ0 : zSt} {k10 : zSt → Int32 → Int32 → Int32 → Option (zSt)} (hk10 : ∀ (y0 : zSt) (y1 : Int32) (y2 : Int32) (y3 : Int32), (zQ [25, 27, 28, 29, 3] [(23, 15, 15)] [] []) σ0 y0 → zpc (k10 y0 y1 y2 y3) (fun r => (zQ [25, 27, 28, 29, 3] [(23, 15, 15)] [] []) σ0 (r))) {σ : zSt} {x2 : Int32} {x3 : Int32} {x4 : Int32} (h : (zQ [25, 27, 28, 29, 3] [(23, 15, 15)] [] []) σ0 σ) : zpc (fJ7_fill_fda19_k27_10_body k10 σ x2 x3 x4) (fun r => (zQ [25, 27, 28, 29, 3] [(23, 15, 15)] [] []) σ0 (r)) := by
  unfold fJ7_fill_fda19_k27_10_body
  exact zpc_if (fun _ => zpc_some h) (fun _ => zpc_ck (zpc_bs (zQ.wi h rfl) (fun σ1 hσ1 => zpc_bv (fun v2 _ => hk10 _ _ _ _ hσ1))))
theorem fd_fJ7_fill_fda19_k27_10 {σ0 : zSt} : ∀ (n : Nat) (y0 : zSt) (y1 : Int32) (y2 : Int32) (y3 : Int32), (zQ [25, 27, 28, 29, 3] [(23, 15, 15)] [] []) σ0 y0 → zpc (fJ7_fill_fda19_k27_10 n y0 y1 y2 y3) (fun r => (zQ [25, 27, 28, 29, 3] [(23, 15, 15)] [] []) σ0 (r)) := by
  intro n
  induction n with
  | zero => intro y0 y1 y2 y3 h; exact zpc_none
  | succ n ih => intro y0 y1 y2 y3 h; exact fd_fJ7_fill_fda19_k27_10_body ih h
theorem fd_fJ7_fill_fda19_k27 {σ0 : zSt} {σ : zSt} {x1 : Int32} {x2 : Int32} {x3 : Int32} (h : (zQ [25, 27, 28, 29, 3] [(23, 15, 15)] [] []) σ0 σ) : zpc (fJ7_fill_fda19_k27 σ x1 x2 x3) (fun r => (zQ [25, 27, 28, 29, 3] [(23, 15, 15)] [] []) σ0 (r)) := by
  unfold fJ7_fill_fda19_k27
  exact zpc_bu (fd_fJ7_rangeCheck_23922 h) (fun σ3 hσ3 => fd_fJ7_fill_fda19_k27_10 _ _ _ _ _ hσ3)
theorem fd_fX3_patternAt {σ0 : zSt} {σ : zSt} {x1 : Int32} {x2 : Int32} (h : (zQ [25, 27, 28, 29, 3] [(23, 15, 15)] [] []) σ0 σ) : zpc (fX3_patternAt σ x1 x2) (fun r => (zQ [25, 27, 28, 29, 3] [(23, 15, 15)] [] []) σ0 (r.1)) := by
  unfold fX3_patternAt
  exact zpc_bi (fd_fX9_held h) (fun σ1 v2 hσ1 => zpc_bi (fd_fX9_vramByte hσ1) (fun σ3 v4 hσ3 => zpc_some hσ3))
theorem fd_fX3_drawText_101 {σ0 : zSt} {k21 : zSt → Int32 → Int32 → Int32 → Int32 → Option (zSt)} (hk21 : ∀ (y0 : zSt) (y1 : Int32) (y2 : Int32) (y3 : Int32) (y4 : Int32), (zQ [25, 27, 28, 29, 3] [(23, 15, 15)] [] []) σ0 y0 → zpc (k21 y0 y1 y2 y3 y4) (fun r => (zQ [25, 27, 28, 29, 3] [(23, 15, 15)] [] []) σ0 (r))) {k56 : zSt → Int32 → Int32 → Int32 → Int32 → Int32 → Int32 → Option (zSt)} (hk56 : ∀ (y0 : zSt) (y1 : Int32) (y2 : Int32) (y3 : Int32) (y4 : Int32) (y5 : Int32) (y6 : Int32), (zQ [25, 27, 28, 29, 3] [(23, 15, 15)] [] []) σ0 y0 → zpc (k56 y0 y1 y2 y3 y4 y5 y6) (fun r => (zQ [25, 27, 28, 29, 3] [(23, 15, 15)] [] []) σ0 (r))) {σ : zSt} {x1 : Int32} {x2 : Int32} {x3 : Int32} {x4 : Int32} {x5 : Int32} {x6 : Int32} {s0 : Int32} {s1 : Int32} (h : (zQ [25, 27, 28, 29, 3] [(23, 15, 15)] [] []) σ0 σ) : zpc (fX3_drawText_101 k21 k56 σ x1 x2 x3 x4 x5 x6 s0 s1) (fun r => (zQ [25, 27, 28, 29, 3] [(23, 15, 15)] [] []) σ0 (r)) := by
  unfold fX3_drawText_101
  exact zpc_ck (zpc_bs (zQ.wi h rfl) (fun σ1 hσ1 => zpc_bv (fun v2 _ => hk56 _ _ _ _ _ _ _ hσ1)))
theorem fd_fX3_drawText_56_body {σ0 : zSt} {k21 : zSt → Int32 → Int32 → Int32 → Int32 → Option (zSt)} (hk21 : ∀ (y0 : zSt) (y1 : Int32) (y2 : Int32) (y3 : Int32) (y4 : Int32), (zQ [25, 27, 28, 29, 3] [(23, 15, 15)] [] []) σ0 y0 → zpc (k21 y0 y1 y2 y3 y4) (fun r => (zQ [25, 27, 28, 29, 3] [(23, 15, 15)] [] []) σ0 (r))) {k56 : zSt → Int32 → Int32 → Int32 → Int32 → Int32 → Int32 → Option (zSt)} (hk56 : ∀ (y0 : zSt) (y1 : Int32) (y2 : Int32) (y3 : Int32) (y4 : Int32) (y5 : Int32) (y6 : Int32), (zQ [25, 27, 28, 29, 3] [(23, 15, 15)] [] []) σ0 y0 → zpc (k56 y0 y1 y2 y3 y4 y5 y6) (fun r => (zQ [25, 27, 28, 29, 3] [(23, 15, 15)] [] []) σ0 (r))) {σ : zSt} {x1 : Int32} {x2 : Int32} {x3 : Int32} {x4 : Int32} {x5 : Int32} {x6 : Int32} (h : (zQ [25, 27, 28, 29, 3] [(23, 15, 15)] [] []) σ0 σ) : zpc (fX3_drawText_56_body k21 k56 σ x1 x2 x3 x4 x5 x6) (fun r => (zQ [25, 27, 28, 29, 3] [(23, 15, 15)] [] []) σ0 (r)) := by
  unfold fX3_drawText_56_body
  exact zpc_if (fun _ => zpc_bv (fun v3 _ => hk21 _ _ _ _ _ h)) (fun _ => zpc_if (fun _ => fd_fX3_drawText_101 hk21 hk56 h) (fun _ => fd_fX3_drawText_101 hk21 hk56 h))
theorem fd_fX3_drawText_56 {σ0 : zSt} {k21 : zSt → Int32 → Int32 → Int32 → Int32 → Option (zSt)} (hk21 : ∀ (y0 : zSt) (y1 : Int32) (y2 : Int32) (y3 : Int32) (y4 : Int32), (zQ [25, 27, 28, 29, 3] [(23, 15, 15)] [] []) σ0 y0 → zpc (k21 y0 y1 y2 y3 y4) (fun r => (zQ [25, 27, 28, 29, 3] [(23, 15, 15)] [] []) σ0 (r))) : ∀ (n : Nat) (y0 : zSt) (y1 : Int32) (y2 : Int32) (y3 : Int32) (y4 : Int32) (y5 : Int32) (y6 : Int32), (zQ [25, 27, 28, 29, 3] [(23, 15, 15)] [] []) σ0 y0 → zpc (fX3_drawText_56 k21 n y0 y1 y2 y3 y4 y5 y6) (fun r => (zQ [25, 27, 28, 29, 3] [(23, 15, 15)] [] []) σ0 (r)) := by
  intro n
  induction n with
  | zero => intro y0 y1 y2 y3 y4 y5 y6 h; exact zpc_none
  | succ n ih => intro y0 y1 y2 y3 y4 y5 y6 h; exact fd_fX3_drawText_56_body hk21 ih h
theorem fd_fX3_drawText_21_body {σ0 : zSt} {k21 : zSt → Int32 → Int32 → Int32 → Int32 → Option (zSt)} (hk21 : ∀ (y0 : zSt) (y1 : Int32) (y2 : Int32) (y3 : Int32) (y4 : Int32), (zQ [25, 27, 28, 29, 3] [(23, 15, 15)] [] []) σ0 y0 → zpc (k21 y0 y1 y2 y3 y4) (fun r => (zQ [25, 27, 28, 29, 3] [(23, 15, 15)] [] []) σ0 (r))) {σ : zSt} {x1 : Int32} {x2 : Int32} {x3 : Int32} {x4 : Int32} (h : (zQ [25, 27, 28, 29, 3] [(23, 15, 15)] [] []) σ0 σ) : zpc (fX3_drawText_21_body k21 σ x1 x2 x3 x4) (fun r => (zQ [25, 27, 28, 29, 3] [(23, 15, 15)] [] []) σ0 (r)) := by
  unfold fX3_drawText_21_body
  exact zpc_if (fun _ => zpc_some h) (fun _ => zpc_bi (fd_fX9_vramByte h) (fun σ4 v5 hσ4 => zpc_bi (fd_fX3_patternAt hσ4) (fun σ6 v7 hσ6 => fd_fX3_drawText_56 hk21 _ _ _ _ _ _ _ _ hσ6)))
theorem fd_fX3_drawText_21 {σ0 : zSt} : ∀ (n : Nat) (y0 : zSt) (y1 : Int32) (y2 : Int32) (y3 : Int32) (y4 : Int32), (zQ [25, 27, 28, 29, 3] [(23, 15, 15)] [] []) σ0 y0 → zpc (fX3_drawText_21 n y0 y1 y2 y3 y4) (fun r => (zQ [25, 27, 28, 29, 3] [(23, 15, 15)] [] []) σ0 (r)) := by
  intro n
  induction n with
  | zero => intro y0 y1 y2 y3 y4 h; exact zpc_none
  | succ n ih => intro y0 y1 y2 y3 y4 h; exact fd_fX3_drawText_21_body ih h
theorem fd_fX3_drawText {σ0 : zSt} {σ : zSt} {x1 : Int32} {x2 : Int32} (h : (zQ [25, 27, 28, 29, 3] [(23, 15, 15)] [] []) σ0 σ) : zpc (fX3_drawText σ x1 x2) (fun r => (zQ [25, 27, 28, 29, 3] [(23, 15, 15)] [] []) σ0 (r)) := by
  unfold fX3_drawText
  exact zpc_bi (fd_fX9_held h) (fun σ8 v9 hσ8 => zpc_bu (fd_fJ7_fill_53178_k27 hσ8) (fun σ10 hσ10 => fd_fX3_drawText_21 _ _ _ _ _ _ hσ10))
theorem fd_fX3_drawPattern_57 {σ0 : zSt} {σ : zSt} (h : (zQ [25, 27, 28, 29, 3] [(23, 15, 15)] [] []) σ0 σ) : zpc (fX3_drawPattern_57 σ) (fun r => (zQ [25, 27, 28, 29, 3] [(23, 15, 15)] [] []) σ0 (r)) := by
  unfold fX3_drawPattern_57
  exact zpc_some h
theorem fd_fX3_drawPattern_50 {σ0 : zSt} {k3 : zSt → Int32 → Int32 → Int32 → Int32 → Option (zSt)} (hk3 : ∀ (y0 : zSt) (y1 : Int32) (y2 : Int32) (y3 : Int32) (y4 : Int32), (zQ [25, 27, 28, 29, 3] [(23, 15, 15)] [] []) σ0 y0 → zpc (k3 y0 y1 y2 y3 y4) (fun r => (zQ [25, 27, 28, 29, 3] [(23, 15, 15)] [] []) σ0 (r))) {σ : zSt} {x1 : Int32} {x2 : Int32} {x3 : Int32} {x4 : Int32} {s0 : Int32} {s1 : Int32} (h : (zQ [25, 27, 28, 29, 3] [(23, 15, 15)] [] []) σ0 σ) : zpc (fX3_drawPattern_50 k3 σ x1 x2 x3 x4 s0 s1) (fun r => (zQ [25, 27, 28, 29, 3] [(23, 15, 15)] [] []) σ0 (r)) := by
  unfold fX3_drawPattern_50
  exact zpc_ck (zpc_bs (zQ.wi h rfl) (fun σ1 hσ1 => zpc_bv (fun v2 _ => hk3 _ _ _ _ _ hσ1)))
theorem fd_fX3_drawPattern_3_body {σ0 : zSt} {k3 : zSt → Int32 → Int32 → Int32 → Int32 → Option (zSt)} (hk3 : ∀ (y0 : zSt) (y1 : Int32) (y2 : Int32) (y3 : Int32) (y4 : Int32), (zQ [25, 27, 28, 29, 3] [(23, 15, 15)] [] []) σ0 y0 → zpc (k3 y0 y1 y2 y3 y4) (fun r => (zQ [25, 27, 28, 29, 3] [(23, 15, 15)] [] []) σ0 (r))) {σ : zSt} {x1 : Int32} {x2 : Int32} {x3 : Int32} {x4 : Int32} (h : (zQ [25, 27, 28, 29, 3] [(23, 15, 15)] [] []) σ0 σ) : zpc (fX3_drawPattern_3_body k3 σ x1 x2 x3 x4) (fun r => (zQ [25, 27, 28, 29, 3] [(23, 15, 15)] [] []) σ0 (r)) := by
  unfold fX3_drawPattern_3_body
  exact zpc_if (fun _ => fd_fX3_drawPattern_57 h) (fun _ => zpc_if (fun _ => fd_fX3_drawPattern_57 h) (fun _ => zpc_if (fun _ => fd_fX3_drawPattern_50 hk3 h) (fun _ => fd_fX3_drawPattern_50 hk3 h)))
theorem fd_fX3_drawPattern_3 {σ0 : zSt} : ∀ (n : Nat) (y0 : zSt) (y1 : Int32) (y2 : Int32) (y3 : Int32) (y4 : Int32), (zQ [25, 27, 28, 29, 3] [(23, 15, 15)] [] []) σ0 y0 → zpc (fX3_drawPattern_3 n y0 y1 y2 y3 y4) (fun r => (zQ [25, 27, 28, 29, 3] [(23, 15, 15)] [] []) σ0 (r)) := by
  intro n
  induction n with
  | zero => intro y0 y1 y2 y3 y4 h; exact zpc_none
  | succ n ih => intro y0 y1 y2 y3 y4 h; exact fd_fX3_drawPattern_3_body ih h
theorem fd_fX3_drawPattern {σ0 : zSt} {σ : zSt} {x1 : Int32} {x2 : Int32} {x3 : Int32} (h : (zQ [25, 27, 28, 29, 3] [(23, 15, 15)] [] []) σ0 σ) : zpc (fX3_drawPattern σ x1 x2 x3) (fun r => (zQ [25, 27, 28, 29, 3] [(23, 15, 15)] [] []) σ0 (r)) := by
  unfold fX3_drawPattern
  exact fd_fX3_drawPattern_3 _ _ _ _ _ _ h
theorem fd_fX3_drawBlocks {σ0 : zSt} {σ : zSt} {x1 : Int32} {x2 : Int32} {x3 : Int32} (h : (zQ [25, 27, 28, 29, 3] [(23, 15, 15)] [] []) σ0 σ) : zpc (fX3_drawBlocks σ x1 x2 x3) (fun r => (zQ [25, 27, 28, 29, 3] [(23, 15, 15)] [] []) σ0 (r)) := by
  unfold fX3_drawBlocks
  exact zpc_bi (fd_fX9_held h) (fun σ1 v2 hσ1 => zpc_bv (fun v3 _ => zpc_bi (fd_fX9_vramByte hσ1) (fun σ4 v5 hσ4 => zpc_bu (fd_fX3_drawPattern hσ4) (fun σ6 hσ6 => zpc_some hσ6))))
theorem fd_fX3_drawThird {σ0 : zSt} {σ : zSt} {x1 : Int32} {x2 : Int32} {x3 : Int32} (h : (zQ [25, 27, 28, 29, 3] [(23, 15, 15)] [] []) σ0 σ) : zpc (fX3_drawThird σ x1 x2 x3) (fun r => (zQ [25, 27, 28, 29, 3] [(23, 15, 15)] [] []) σ0 (r)) := by
  unfold fX3_drawThird
  exact zpc_bi (fd_fX9_held h) (fun σ1 v2 hσ1 => zpc_bi (fd_fX9_held hσ1) (fun σ3 v4 hσ3 => zpc_bv (fun v5 _ => zpc_bv (fun v6 _ => zpc_bi (fd_fX9_vramByte hσ3) (fun σ7 v8 hσ7 => zpc_bi (fd_fX9_vramByte hσ7) (fun σ9 v10 hσ9 => zpc_bu (fd_fX3_drawPattern hσ9) (fun σ11 hσ11 => zpc_some hσ11)))))))
theorem fd_fX3_drawOld_165 {σ0 : zSt} {k31 : zSt → Int32 → Int32 → Int32 → Int32 → Option (zSt)} (hk31 : ∀ (y0 : zSt) (y1 : Int32) (y2 : Int32) (y3 : Int32) (y4 : Int32), (zQ [25, 27, 28, 29, 3] [(23, 15, 15)] [] []) σ0 y0 → zpc (k31 y0 y1 y2 y3 y4) (fun r => (zQ [25, 27, 28, 29, 3] [(23, 15, 15)] [] []) σ0 (r))) {σ : zSt} {x1 : Int32} {x2 : Int32} {x3 : Int32} {x4 : Int32} (h : (zQ [25, 27, 28, 29, 3] [(23, 15, 15)] [] []) σ0 σ) : zpc (fX3_drawOld_165 k31 σ x1 x2 x3 x4) (fun r => (zQ [25, 27, 28, 29, 3] [(23, 15, 15)] [] []) σ0 (r)) := by
  unfold fX3_drawOld_165
  exact zpc_bv (fun v1 _ => hk31 _ _ _ _ _ h)
theorem fd_fX3_drawOld_31_body {σ0 : zSt} {k31 : zSt → Int32 → Int32 → Int32 → Int32 → Option (zSt)} (hk31 : ∀ (y0 : zSt) (y1 : Int32) (y2 : Int32) (y3 : Int32) (y4 : Int32), (zQ [25, 27, 28, 29, 3] [(23, 15, 15)] [] []) σ0 y0 → zpc (k31 y0 y1 y2 y3 y4) (fun r => (zQ [25, 27, 28, 29, 3] [(23, 15, 15)] [] []) σ0 (r))) {σ : zSt} {x1 : Int32} {x2 : Int32} {x3 : Int32} {x4 : Int32} (h : (zQ [25, 27, 28, 29, 3] [(23, 15, 15)] [] []) σ0 σ) : zpc (fX3_drawOld_31_body k31 σ x1 x2 x3 x4) (fun r => (zQ [25, 27, 28, 29, 3] [(23, 15, 15)] [] []) σ0 (r)) := by
  unfold fX3_drawOld_31_body
  exact zpc_if (fun _ => zpc_some h) (fun _ => zpc_bi (fd_fX9_vramByte h) (fun σ2 v3 hσ2 => zpc_if (fun _ => zpc_bi (fd_fX3_patternAt hσ2) (fun σ4 v5 hσ4 => zpc_bi (fd_fX9_held hσ4) (fun σ6 v7 hσ6 => zpc_bi (fd_fX9_vramByte hσ6) (fun σ8 v9 hσ8 => zpc_bu (fd_fX3_drawPattern hσ8) (fun σ10 hσ10 => fd_fX3_drawOld_165 hk31 hσ10))))) (fun _ => zpc_if (fun _ => zpc_bu (fd_fX3_drawThird hσ2) (fun σ11 hσ11 => fd_fX3_drawOld_165 hk31 hσ11)) (fun _ => zpc_bu (fd_fX3_drawBlocks hσ2) (fun σ12 hσ12 => fd_fX3_drawOld_165 hk31 hσ12)))))
theorem fd_fX3_drawOld_31 {σ0 : zSt} : ∀ (n : Nat) (y0 : zSt) (y1 : Int32) (y2 : Int32) (y3 : Int32) (y4 : Int32), (zQ [25, 27, 28, 29, 3] [(23, 15, 15)] [] []) σ0 y0 → zpc (fX3_drawOld_31 n y0 y1 y2 y3 y4) (fun r => (zQ [25, 27, 28, 29, 3] [(23, 15, 15)] [] []) σ0 (r)) := by
  intro n
  induction n with
  | zero => intro y0 y1 y2 y3 y4 h; exact zpc_none
  | succ n ih => intro y0 y1 y2 y3 y4 h; exact fd_fX3_drawOld_31_body ih h
theorem fd_fX3_drawOld {σ0 : zSt} {σ : zSt} {x1 : Int32} {x2 : Int32} (h : (zQ [25, 27, 28, 29, 3] [(23, 15, 15)] [] []) σ0 σ) : zpc (fX3_drawOld σ x1 x2) (fun r => (zQ [25, 27, 28, 29, 3] [(23, 15, 15)] [] []) σ0 (r)) := by
  unfold fX3_drawOld
  exact zpc_bi (fd_fX9_held h) (fun σ13 v14 hσ13 => zpc_bv (fun v15 _ => zpc_if (fun _ => zpc_bu (fd_fX3_drawText hσ13) (fun σ16 hσ16 => zpc_some hσ16)) (fun _ => fd_fX3_drawOld_31 _ _ _ _ _ _ hσ13)))
theorem fd_fX9_markFifth_39 {σ0 : zSt} {σ : zSt} (h : (zQ [25, 27, 28, 29, 3] [(23, 15, 15)] [] []) σ0 σ) : zpc (fX9_markFifth_39 σ) (fun r => (zQ [25, 27, 28, 29, 3] [(23, 15, 15)] [] []) σ0 (r)) := by
  unfold fX9_markFifth_39
  exact zpc_some h
theorem fd_fX9_markFifth {σ0 : zSt} {σ : zSt} {x1 : Int32} (h : (zQ [25, 27, 28, 29, 3] [(23, 15, 15)] [] []) σ0 σ) : zpc (fX9_markFifth σ x1) (fun r => (zQ [25, 27, 28, 29, 3] [(23, 15, 15)] [] []) σ0 (r)) := by
  unfold fX9_markFifth
  exact zpc_ck (zpc_if (fun _ => zpc_ck (zpc_ck (zpc_bs (zQ.wi h rfl) (fun σ1 hσ1 => fd_fX9_markFifth_39 hσ1)))) (fun _ => fd_fX9_markFifth_39 h))
theorem fd_fX3_takeDot_41 {σ0 : zSt} {σ : zSt} (h : (zQ [25, 27, 28, 29, 3] [(23, 15, 15)] [] []) σ0 σ) : zpc (fX3_takeDot_41 σ) (fun r => (zQ [25, 27, 28, 29, 3] [(23, 15, 15)] [] []) σ0 (r)) := by
  unfold fX3_takeDot_41
  exact zpc_some h
theorem fd_fX3_takeDot_18 {σ0 : zSt} {σ : zSt} {x1 : Int32} {x2 : Int32} (h : (zQ [25, 27, 28, 29, 3] [(23, 15, 15)] [] []) σ0 σ) : zpc (fX3_takeDot_18 σ x1 x2) (fun r => (zQ [25, 27, 28, 29, 3] [(23, 15, 15)] [] []) σ0 (r)) := by
  unfold fX3_takeDot_18
  exact zpc_ck (zpc_if (fun _ => zpc_ck (zpc_bs (zQ.wi h rfl) (fun σ1 hσ1 => fd_fX3_takeDot_41 hσ1))) (fun _ => fd_fX3_takeDot_41 h))
theorem fd_fX3_takeDot {σ0 : zSt} {σ : zSt} {x1 : Int32} {x2 : Int32} (h : (zQ [25, 27, 28, 29, 3] [(23, 15, 15)] [] []) σ0 σ) : zpc (fX3_takeDot σ x1 x2) (fun r => (zQ [25, 27, 28, 29, 3] [(23, 15, 15)] [] []) σ0 (r)) := by
  unfold fX3_takeDot
  exact zpc_ck (zpc_if (fun _ => fd_fX3_takeDot_18 h) (fun _ => zpc_bu (fd_fX9_mark h) (fun σ2 hσ2 => fd_fX3_takeDot_18 hσ2)))
theorem fd_fX3_drawOldSprite_224 {σ0 : zSt} {k158 : zSt → Int32 → Int32 → Int32 → Int32 → Int32 → Int32 → Option (zSt)} (hk158 : ∀ (y0 : zSt) (y1 : Int32) (y2 : Int32) (y3 : Int32) (y4 : Int32) (y5 : Int32) (y6 : Int32), (zQ [25, 27, 28, 29, 3] [(23, 15, 15)] [] []) σ0 y0 → zpc (k158 y0 y1 y2 y3 y4 y5 y6) (fun r => (zQ [25, 27, 28, 29, 3] [(23, 15, 15)] [] []) σ0 (r))) {σ : zSt} {x3 : Int32} {x4 : Int32} {x7 : Int32} {x8 : Int32} {x10 : Int32} {x11 : Int32} (h : (zQ [25, 27, 28, 29, 3] [(23, 15, 15)] [] []) σ0 σ) : zpc (fX3_drawOldSprite_224 k158 σ x3 x4 x7 x8 x10 x11) (fun r => (zQ [25, 27, 28, 29, 3] [(23, 15, 15)] [] []) σ0 (r)) := by
  unfold fX3_drawOldSprite_224
  exact zpc_bv (fun v1 _ => hk158 _ _ _ _ _ _ _ h)
theorem fd_fX3_drawOldSprite_172 {σ0 : zSt} {k158 : zSt → Int32 → Int32 → Int32 → Int32 → Int32 → Int32 → Option (zSt)} (hk158 : ∀ (y0 : zSt) (y1 : Int32) (y2 : Int32) (y3 : Int32) (y4 : Int32) (y5 : Int32) (y6 : Int32), (zQ [25, 27, 28, 29, 3] [(23, 15, 15)] [] []) σ0 y0 → zpc (k158 y0 y1 y2 y3 y4 y5 y6) (fun r => (zQ [25, 27, 28, 29, 3] [(23, 15, 15)] [] []) σ0 (r))) {σ : zSt} {x3 : Int32} {x4 : Int32} {x7 : Int32} {x8 : Int32} {x10 : Int32} {x11 : Int32} {s0 : Int32} {s1 : Int32} (h : (zQ [25, 27, 28, 29, 3] [(23, 15, 15)] [] []) σ0 σ) : zpc (fX3_drawOldSprite_172 k158 σ x3 x4 x7 x8 x10 x11 s0 s1) (fun r => (zQ [25, 27, 28, 29, 3] [(23, 15, 15)] [] []) σ0 (r)) := by
  unfold fX3_drawOldSprite_172
  exact zpc_if (fun _ => zpc_some h) (fun _ => zpc_bv (fun v2 _ => zpc_if (fun _ => fd_fX3_drawOldSprite_224 hk158 h) (fun _ => zpc_if (fun _ => fd_fX3_drawOldSprite_224 hk158 h) (fun _ => zpc_if (fun _ => fd_fX3_drawOldSprite_224 hk158 h) (fun _ => zpc_bu (fd_fX3_takeDot h) (fun σ3 hσ3 => fd_fX3_drawOldSprite_224 hk158 hσ3))))))
theorem fd_fX3_drawOldSprite_158_body {σ0 : zSt} {k158 : zSt → Int32 → Int32 → Int32 → Int32 → Int32 → Int32 → Option (zSt)} (hk158 : ∀ (y0 : zSt) (y1 : Int32) (y2 : Int32) (y3 : Int32) (y4 : Int32) (y5 : Int32) (y6 : Int32), (zQ [25, 27, 28, 29, 3] [(23, 15, 15)] [] []) σ0 y0 → zpc (k158 y0 y1 y2 y3 y4 y5 y6) (fun r => (zQ [25, 27, 28, 29, 3] [(23, 15, 15)] [] []) σ0 (r))) {σ : zSt} {x3 : Int32} {x4 : Int32} {x7 : Int32} {x8 : Int32} {x10 : Int32} {x11 : Int32} (h : (zQ [25, 27, 28, 29, 3] [(23, 15, 15)] [] []) σ0 σ) : zpc (fX3_drawOldSprite_158_body k158 σ x3 x4 x7 x8 x10 x11) (fun r => (zQ [25, 27, 28, 29, 3] [(23, 15, 15)] [] []) σ0 (r)) := by
  unfold fX3_drawOldSprite_158_body
  exact zpc_if (fun _ => fd_fX3_drawOldSprite_172 hk158 h) (fun _ => fd_fX3_drawOldSprite_172 hk158 h)
theorem fd_fX3_drawOldSprite_158 {σ0 : zSt} : ∀ (n : Nat) (y0 : zSt) (y1 : Int32) (y2 : Int32) (y3 : Int32) (y4 : Int32) (y5 : Int32) (y6 : Int32), (zQ [25, 27, 28, 29, 3] [(23, 15, 15)] [] []) σ0 y0 → zpc (fX3_drawOldSprite_158 n y0 y1 y2 y3 y4 y5 y6) (fun r => (zQ [25, 27, 28, 29, 3] [(23, 15, 15)] [] []) σ0 (r)) := by
  intro n
  induction n with
  | zero => intro y0 y1 y2 y3 y4 y5 y6 h; exact zpc_none
  | succ n ih => intro y0 y1 y2 y3 y4 y5 y6 h; exact fd_fX3_drawOldSprite_158_body ih h
theorem fd_fX3_drawOldSprite_152 {σ0 : zSt} {σ : zSt} {x3 : Int32} {x4 : Int32} {x7 : Int32} {x8 : Int32} {s0 : Int32} {s1 : Int32} (h : (zQ [25, 27, 28, 29, 3] [(23, 15, 15)] [] []) σ0 σ) : zpc (fX3_drawOldSprite_152 σ x3 x4 x7 x8 s0 s1) (fun r => (zQ [25, 27, 28, 29, 3] [(23, 15, 15)] [] []) σ0 (r)) := by
  unfold fX3_drawOldSprite_152
  exact zpc_bv (fun v4 _ => fd_fX3_drawOldSprite_158 _ _ _ _ _ _ _ _ h)
theorem fd_fX3_drawOldSprite_113 {σ0 : zSt} {σ : zSt} {x2 : Int32} {x3 : Int32} {x4 : Int32} {x7 : Int32} {x8 : Int32} {s0 : Int32} {s1 : Int32} {s2 : Int32} (h : (zQ [25, 27, 28, 29, 3] [(23, 15, 15)] [] []) σ0 σ) : zpc (fX3_drawOldSprite_113 σ x2 x3 x4 x7 x8 s0 s1 s2) (fun r => (zQ [25, 27, 28, 29, 3] [(23, 15, 15)] [] []) σ0 (r)) := by
  unfold fX3_drawOldSprite_113
  exact zpc_bv (fun v5 _ => zpc_bi (fd_fX9_vramByte h) (fun σ6 v7 hσ6 => zpc_if (fun _ => fd_fX3_drawOldSprite_152 hσ6) (fun _ => zpc_bi (fd_fX9_vramByte hσ6) (fun σ8 v9 hσ8 => fd_fX3_drawOldSprite_152 hσ8))))
theorem fd_fX3_drawOldSprite_78 {σ0 : zSt} {σ : zSt} {x2 : Int32} {x3 : Int32} {x4 : Int32} {x5 : Int32} {x7 : Int32} {s0 : Int32} (h : (zQ [25, 27, 28, 29, 3] [(23, 15, 15)] [] []) σ0 σ) : zpc (fX3_drawOldSprite_78 σ x2 x3 x4 x5 x7 s0) (fun r => (zQ [25, 27, 28, 29, 3] [(23, 15, 15)] [] []) σ0 (r)) := by
  unfold fX3_drawOldSprite_78
  exact zpc_bi (fd_fX9_held h) (fun σ10 v11 hσ10 => zpc_if (fun _ => fd_fX3_drawOldSprite_113 hσ10) (fun _ => fd_fX3_drawOldSprite_113 hσ10))
theorem fd_fX3_drawOldSprite_35 {σ0 : zSt} {σ : zSt} {x1 : Int32} {x2 : Int32} {x3 : Int32} {s0 : Int32} {s1 : Int32} (h : (zQ [25, 27, 28, 29, 3] [(23, 15, 15)] [] []) σ0 σ) : zpc (fX3_drawOldSprite_35 σ x1 x2 x3 s0 s1) (fun r => (zQ [25, 27, 28, 29, 3] [(23, 15, 15)] [] []) σ0 (r)) := by
  unfold fX3_drawOldSprite_35
  exact zpc_bv (fun v12 _ => zpc_bi (fd_fX9_vramByte h) (fun σ13 v14 hσ13 => zpc_bi (fd_fX9_held hσ13) (fun σ15 v16 hσ15 => zpc_bv (fun v17 _ => zpc_if (fun _ => fd_fX3_drawOldSprite_78 hσ15) (fun _ => fd_fX3_drawOldSprite_78 hσ15)))))
theorem fd_fX3_drawOldSprite {σ0 : zSt} {σ : zSt} {x1 : Int32} {x2 : Int32} (h : (zQ [25, 27, 28, 29, 3] [(23, 15, 15)] [] []) σ0 σ) : zpc (fX3_drawOldSprite σ x1 x2) (fun r => (zQ [25, 27, 28, 29, 3] [(23, 15, 15)] [] []) σ0 (r)) := by
  unfold fX3_drawOldSprite
  exact zpc_bi (fd_fX9_vramByte h) (fun σ18 v19 hσ18 => zpc_bi (fd_fX9_vramByte hσ18) (fun σ20 v21 hσ20 => zpc_if (fun _ => fd_fX3_drawOldSprite_35 hσ20) (fun _ => fd_fX3_drawOldSprite_35 hσ20)))
theorem fd_fX3_drawOldSprites_155 {σ0 : zSt} {k117 : zSt → Int32 → Option (zSt)} (hk117 : ∀ (y0 : zSt) (y1 : Int32), (zQ [25, 27, 28, 29, 3] [(23, 15, 15)] [] []) σ0 y0 → zpc (k117 y0 y1) (fun r => (zQ [25, 27, 28, 29, 3] [(23, 15, 15)] [] []) σ0 (r))) {σ : zSt} {x4 : Int32} (h : (zQ [25, 27, 28, 29, 3] [(23, 15, 15)] [] []) σ0 σ) : zpc (fX3_drawOldSprites_155 k117 σ x4) (fun r => (zQ [25, 27, 28, 29, 3] [(23, 15, 15)] [] []) σ0 (r)) := by
  unfold fX3_drawOldSprites_155
  exact zpc_bv (fun v1 _ => hk117 _ _ h)
theorem fd_fX3_drawOldSprites_117_body {σ0 : zSt} {k117 : zSt → Int32 → Option (zSt)} (hk117 : ∀ (y0 : zSt) (y1 : Int32), (zQ [25, 27, 28, 29, 3] [(23, 15, 15)] [] []) σ0 y0 → zpc (k117 y0 y1) (fun r => (zQ [25, 27, 28, 29, 3] [(23, 15, 15)] [] []) σ0 (r))) {σ : zSt} {x4 : Int32} (h : (zQ [25, 27, 28, 29, 3] [(23, 15, 15)] [] []) σ0 σ) : zpc (fX3_drawOldSprites_117_body k117 σ x4) (fun r => (zQ [25, 27, 28, 29, 3] [(23, 15, 15)] [] []) σ0 (r)) := by
  unfold fX3_drawOldSprites_117_body
  exact zpc_if (fun _ => zpc_some h) (fun _ => zpc_ck (zpc_if (fun _ => fd_fX3_drawOldSprites_155 hk117 h) (fun _ => zpc_ck (zpc_ck (zpc_bs (zQ.wi h rfl) (fun σ2 hσ2 => fd_fX3_drawOldSprites_155 hk117 hσ2))))))
theorem fd_fX3_drawOldSprites_117 {σ0 : zSt} : ∀ (n : Nat) (y0 : zSt) (y1 : Int32), (zQ [25, 27, 28, 29, 3] [(23, 15, 15)] [] []) σ0 y0 → zpc (fX3_drawOldSprites_117 n y0 y1) (fun r => (zQ [25, 27, 28, 29, 3] [(23, 15, 15)] [] []) σ0 (r)) := by
  intro n
  induction n with
  | zero => intro y0 y1 h; exact zpc_none
  | succ n ih => intro y0 y1 h; exact fd_fX3_drawOldSprites_117_body ih h
theorem fd_fX3_drawOldSprites_114 {σ0 : zSt} {σ : zSt} (h : (zQ [25, 27, 28, 29, 3] [(23, 15, 15)] [] []) σ0 σ) : zpc (fX3_drawOldSprites_114 σ) (fun r => (zQ [25, 27, 28, 29, 3] [(23, 15, 15)] [] []) σ0 (r)) := by
  unfold fX3_drawOldSprites_114
  exact fd_fX3_drawOldSprites_117 _ _ _ h
theorem fd_fX3_drawOldSprites_108 {σ0 : zSt} {k29 : zSt → Int32 → Int32 → Int32 → Int32 → Option (zSt)} (hk29 : ∀ (y0 : zSt) (y1 : Int32) (y2 : Int32) (y3 : Int32) (y4 : Int32), (zQ [25, 27, 28, 29, 3] [(23, 15, 15)] [] []) σ0 y0 → zpc (k29 y0 y1 y2 y3 y4) (fun r => (zQ [25, 27, 28, 29, 3] [(23, 15, 15)] [] []) σ0 (r))) {σ : zSt} {x1 : Int32} {x2 : Int32} {x3 : Int32} {x4 : Int32} (h : (zQ [25, 27, 28, 29, 3] [(23, 15, 15)] [] []) σ0 σ) : zpc (fX3_drawOldSprites_108 k29 σ x1 x2 x3 x4) (fun r => (zQ [25, 27, 28, 29, 3] [(23, 15, 15)] [] []) σ0 (r)) := by
  unfold fX3_drawOldSprites_108
  exact zpc_bv (fun v3 _ => hk29 _ _ _ _ _ h)
theorem fd_fX3_drawOldSprites_29_body {σ0 : zSt} {k29 : zSt → Int32 → Int32 → Int32 → Int32 → Option (zSt)} (hk29 : ∀ (y0 : zSt) (y1 : Int32) (y2 : Int32) (y3 : Int32) (y4 : Int32), (zQ [25, 27, 28, 29, 3] [(23, 15, 15)] [] []) σ0 y0 → zpc (k29 y0 y1 y2 y3 y4) (fun r => (zQ [25, 27, 28, 29, 3] [(23, 15, 15)] [] []) σ0 (r))) {σ : zSt} {x1 : Int32} {x2 : Int32} {x3 : Int32} {x4 : Int32} (h : (zQ [25, 27, 28, 29, 3] [(23, 15, 15)] [] []) σ0 σ) : zpc (fX3_drawOldSprites_29_body k29 σ x1 x2 x3 x4) (fun r => (zQ [25, 27, 28, 29, 3] [(23, 15, 15)] [] []) σ0 (r)) := by
  unfold fX3_drawOldSprites_29_body
  exact zpc_if (fun _ => fd_fX3_drawOldSprites_114 h) (fun _ => zpc_bv (fun v4 _ => zpc_bi (fd_fX9_vramByte h) (fun σ5 v6 hσ5 => zpc_if (fun _ => fd_fX3_drawOldSprites_114 hσ5) (fun _ => zpc_bi (fd_fX3_rowOfSprite hσ5) (fun σ7 v8 hσ7 => zpc_if (fun _ => fd_fX3_drawOldSprites_108 hk29 hσ7) (fun _ => zpc_bv (fun v9 _ => zpc_if (fun _ => zpc_bu (fd_fX3_drawOldSprite hσ7) (fun σ10 hσ10 => fd_fX3_drawOldSprites_108 hk29 hσ10)) (fun _ => zpc_bu (fd_fX9_markFifth hσ7) (fun σ11 hσ11 => fd_fX3_drawOldSprites_114 hσ11)))))))))
theorem fd_fX3_drawOldSprites_29 {σ0 : zSt} : ∀ (n : Nat) (y0 : zSt) (y1 : Int32) (y2 : Int32) (y3 : Int32) (y4 : Int32), (zQ [25, 27, 28, 29, 3] [(23, 15, 15)] [] []) σ0 y0 → zpc (fX3_drawOldSprites_29 n y0 y1 y2 y3 y4) (fun r => (zQ [25, 27, 28, 29, 3] [(23, 15, 15)] [] []) σ0 (r)) := by
  intro n
  induction n with
  | zero => intro y0 y1 y2 y3 y4 h; exact zpc_none
  | succ n ih => intro y0 y1 y2 y3 y4 h; exact fd_fX3_drawOldSprites_29_body ih h
theorem fd_fX3_drawOldSprites {σ0 : zSt} {σ : zSt} {x1 : Int32} (h : (zQ [25, 27, 28, 29, 3] [(23, 15, 15)] [] []) σ0 σ) : zpc (fX3_drawOldSprites σ x1) (fun r => (zQ [25, 27, 28, 29, 3] [(23, 15, 15)] [] []) σ0 (r)) := by
  unfold fX3_drawOldSprites
  exact zpc_bu (fd_fJ7_fill_53178_k28 h) (fun σ12 hσ12 => zpc_bi (fd_fX9_held hσ12) (fun σ13 v14 hσ13 => zpc_bv (fun v15 _ => fd_fX3_drawOldSprites_29 _ _ _ _ _ _ hσ13)))
theorem fd_fX3_fillBack_25 {σ0 : zSt} {k2 : zSt → Int32 → Int32 → Option (zSt)} (hk2 : ∀ (y0 : zSt) (y1 : Int32) (y2 : Int32), (zQ [25, 27, 28, 29, 3] [(23, 15, 15)] [] []) σ0 y0 → zpc (k2 y0 y1 y2) (fun r => (zQ [25, 27, 28, 29, 3] [(23, 15, 15)] [] []) σ0 (r))) {σ : zSt} {x1 : Int32} {x2 : Int32} (h : (zQ [25, 27, 28, 29, 3] [(23, 15, 15)] [] []) σ0 σ) : zpc (fX3_fillBack_25 k2 σ x1 x2) (fun r => (zQ [25, 27, 28, 29, 3] [(23, 15, 15)] [] []) σ0 (r)) := by
  unfold fX3_fillBack_25
  exact zpc_bv (fun v1 _ => hk2 _ _ _ h)
theorem fd_fX3_fillBack_2_body {σ0 : zSt} {k2 : zSt → Int32 → Int32 → Option (zSt)} (hk2 : ∀ (y0 : zSt) (y1 : Int32) (y2 : Int32), (zQ [25, 27, 28, 29, 3] [(23, 15, 15)] [] []) σ0 y0 → zpc (k2 y0 y1 y2) (fun r => (zQ [25, 27, 28, 29, 3] [(23, 15, 15)] [] []) σ0 (r))) {σ : zSt} {x1 : Int32} {x2 : Int32} (h : (zQ [25, 27, 28, 29, 3] [(23, 15, 15)] [] []) σ0 σ) : zpc (fX3_fillBack_2_body k2 σ x1 x2) (fun r => (zQ [25, 27, 28, 29, 3] [(23, 15, 15)] [] []) σ0 (r)) := by
  unfold fX3_fillBack_2_body
  exact zpc_if (fun _ => zpc_some h) (fun _ => zpc_ck (zpc_if (fun _ => zpc_ck (zpc_bs (zQ.wi h rfl) (fun σ2 hσ2 => fd_fX3_fillBack_25 hk2 hσ2))) (fun _ => fd_fX3_fillBack_25 hk2 h)))
theorem fd_fX3_fillBack_2 {σ0 : zSt} : ∀ (n : Nat) (y0 : zSt) (y1 : Int32) (y2 : Int32), (zQ [25, 27, 28, 29, 3] [(23, 15, 15)] [] []) σ0 y0 → zpc (fX3_fillBack_2 n y0 y1 y2) (fun r => (zQ [25, 27, 28, 29, 3] [(23, 15, 15)] [] []) σ0 (r)) := by
  intro n
  induction n with
  | zero => intro y0 y1 y2 h; exact zpc_none
  | succ n ih => intro y0 y1 y2 h; exact fd_fX3_fillBack_2_body ih h
theorem fd_fX3_fillBack {σ0 : zSt} {σ : zSt} {x1 : Int32} (h : (zQ [25, 27, 28, 29, 3] [(23, 15, 15)] [] []) σ0 σ) : zpc (fX3_fillBack σ x1) (fun r => (zQ [25, 27, 28, 29, 3] [(23, 15, 15)] [] []) σ0 (r)) := by
  unfold fX3_fillBack
  exact fd_fX3_fillBack_2 _ _ _ _ h
theorem fd_fX3_draw_21 {σ0 : zSt} {σ : zSt} (h : (zQ [25, 27, 28, 29, 3] [(23, 15, 15)] [] []) σ0 σ) : zpc (fX3_draw_21 σ) (fun r => (zQ [25, 27, 28, 29, 3] [(23, 15, 15)] [] []) σ0 (r)) := by
  unfold fX3_draw_21
  exact zpc_some h
theorem fd_fX3_draw_152_body {σ0 : zSt} {k152 : zSt → Int32 → Int32 → Option (zSt)} (hk152 : ∀ (y0 : zSt) (y1 : Int32) (y2 : Int32), (zQ [25, 27, 28, 29, 3] [(23, 15, 15)] [] []) σ0 y0 → zpc (k152 y0 y1 y2) (fun r => (zQ [25, 27, 28, 29, 3] [(23, 15, 15)] [] []) σ0 (r))) {σ : zSt} {x1 : Int32} {x4 : Int32} (h : (zQ [25, 27, 28, 29, 3] [(23, 15, 15)] [] []) σ0 σ) : zpc (fX3_draw_152_body k152 σ x1 x4) (fun r => (zQ [25, 27, 28, 29, 3] [(23, 15, 15)] [] []) σ0 (r)) := by
  unfold fX3_draw_152_body
  exact zpc_if (fun _ => zpc_some h) (fun _ => zpc_ck (zpc_ck (zpc_ck (zpc_bs (zQ.wi h rfl) (fun σ1 hσ1 => zpc_bv (fun v2 _ => hk152 _ _ _ hσ1))))))
theorem fd_fX3_draw_152 {σ0 : zSt} : ∀ (n : Nat) (y0 : zSt) (y1 : Int32) (y2 : Int32), (zQ [25, 27, 28, 29, 3] [(23, 15, 15)] [] []) σ0 y0 → zpc (fX3_draw_152 n y0 y1 y2) (fun r => (zQ [25, 27, 28, 29, 3] [(23, 15, 15)] [] []) σ0 (r)) := by
  intro n
  induction n with
  | zero => intro y0 y1 y2 h; exact zpc_none
  | succ n ih => intro y0 y1 y2 h; exact fd_fX3_draw_152_body ih h
theorem fd_fX3_draw_144 {σ0 : zSt} {σ : zSt} {x1 : Int32} {x2 : Int32} (h : (zQ [25, 27, 28, 29, 3] [(23, 15, 15)] [] []) σ0 σ) : zpc (fX3_draw_144 σ x1 x2) (fun r => (zQ [25, 27, 28, 29, 3] [(23, 15, 15)] [] []) σ0 (r)) := by
  unfold fX3_draw_144
  exact zpc_bu (fd_fX3_mixColours h) (fun σ3 hσ3 => fd_fX3_draw_152 _ _ _ _ hσ3)
theorem fd_fX3_draw_139 {σ0 : zSt} {σ : zSt} {x1 : Int32} {x2 : Int32} {x3 : Int32} (h : (zQ [25, 27, 28, 29, 3] [(23, 15, 15)] [] []) σ0 σ) : zpc (fX3_draw_139 σ x1 x2 x3) (fun r => (zQ [25, 27, 28, 29, 3] [(23, 15, 15)] [] []) σ0 (r)) := by
  unfold fX3_draw_139
  exact zpc_bu (fd_fX3_fillBack h) (fun σ4 hσ4 => fd_fX3_draw_144 hσ4)
theorem fd_fX3_draw_41 {σ0 : zSt} {σ : zSt} {x1 : Int32} {x2 : Int32} {s0 : Int32} (h : (zQ [25, 27, 28, 29, 3] [(23, 15, 15)] [] []) σ0 σ) : zpc (fX3_draw_41 σ x1 x2 s0) (fun r => (zQ [25, 27, 28, 29, 3] [(23, 15, 15)] [] []) σ0 (r)) := by
  unfold fX3_draw_41
  exact zpc_bi (fd_fX9_held h) (fun σ5 v6 hσ5 => zpc_bv (fun v7 _ => zpc_bi (fd_fX9_held hσ5) (fun σ8 v9 hσ8 => zpc_if (fun _ => zpc_bu (fd_fJ7_fill_53178_k27 hσ8) (fun σ17 hσ17 => fd_fX3_draw_144 hσ17)) (fun _ => zpc_if (fun _ => zpc_bu (fd_fX3_drawTiles hσ8) (fun σ12 hσ12 => zpc_bu (fd_fX3_drawSprites hσ12) (fun σ13 hσ13 => zpc_bi (fd_fX9_held hσ13) (fun σ14 v15 hσ14 => zpc_if (fun _ => fd_fX3_draw_144 hσ14) (fun _ => zpc_bu (fd_fJ7_fill_fda19_k27 hσ14) (fun σ16 hσ16 => fd_fX3_draw_144 hσ16)))))) (fun _ => zpc_bu (fd_fX3_drawOld hσ8) (fun σ10 hσ10 => zpc_if (fun _ => fd_fX3_draw_139 hσ10) (fun _ => zpc_bu (fd_fX3_drawOldSprites hσ10) (fun σ11 hσ11 => fd_fX3_draw_139 hσ11))))))))
theorem fd_fX3_draw {σ0 : zSt} {σ : zSt} (h : (zQ [25, 27, 28, 29, 3] [(23, 15, 15)] [] []) σ0 σ) : zpc (fX3_draw σ) (fun r => (zQ [25, 27, 28, 29, 3] [(23, 15, 15)] [] []) σ0 (r)) := by
  unfold fX3_draw
  exact zpc_bi (fd_fX9_held h) (fun σ18 v19 hσ18 => zpc_if (fun _ => fd_fX3_draw_21 hσ18) (fun _ => zpc_if (fun _ => zpc_bi (fd_fX9_mode hσ18) (fun σ20 v21 hσ20 => zpc_if (fun _ => fd_fX3_draw_41 hσ20) (fun _ => fd_fX3_draw_41 hσ20))) (fun _ => fd_fX3_draw_21 hσ18)))
end ZJN13
section ZJN14
theorem fp_fX7_moveTone_57 {σ0 : zSt} {σ : zSt} {x1 : Int32} {x2 : Int32} (h : (zQ [30, 32, 5, 11, 12] [] [5, 46, 48] [(38, 0, 1), (38, 3, 6)]) σ0 σ) : zpc (fX7_moveTone_57 σ x1 x2) (fun r => (zQ [30, 32, 5, 11, 12] [] [5, 46, 48] [(38, 0, 1), (38, 3, 6)]) σ0 (r)) := by
  unfold fX7_moveTone_57
  exact zpc_ck (zpc_bs (zQ.wi h rfl) (fun σ1 hσ1 => zpc_some hσ1))
theorem fp_fX7_moveTone_56 {σ0 : zSt} {σ : zSt} {x1 : Int32} {x2 : Int32} {s0 : Int32} {s1 : Int32} (h : (zQ [30, 32, 5, 11, 12] [] [5, 46, 48] [(38, 0, 1), (38, 3, 6)]) σ0 σ) : zpc (fX7_moveTone_56 σ x1 x2 s0 s1) (fun r => (zQ [30, 32, 5, 11, 12] [] [5, 46, 48] [(38, 0, 1), (38, 3, 6)]) σ0 (r)) := by
  unfold fX7_moveTone_56
  exact zpc_ck (zpc_bs (zQ.wi h rfl) (fun σ2 hσ2 => fp_fX7_moveTone_57 hσ2))
theorem fp_fX7_moveTone {σ0 : zSt} {σ : zSt} {x1 : Int32} (h : (zQ [30, 32, 5, 11, 12] [] [5, 46, 48] [(38, 0, 1), (38, 3, 6)]) σ0 σ) : zpc (fX7_moveTone σ x1) (fun r => (zQ [30, 32, 5, 11, 12] [] [5, 46, 48] [(38, 0, 1), (38, 3, 6)]) σ0 (r)) := by
  unfold fX7_moveTone
  exact zpc_ck (zpc_bv (fun v3 _ => zpc_if (fun _ => zpc_ck (zpc_bv (fun v4 _ => zpc_if (fun _ => zpc_ck (fp_fX7_moveTone_56 h)) (fun _ => fp_fX7_moveTone_56 h)))) (fun _ => fp_fX7_moveTone_57 h)))
theorem fp_fX7_moveNoise_136 {σ0 : zSt} {σ : zSt} (h : (zQ [30, 32, 5, 11, 12] [] [5, 46, 48] [(38, 0, 1), (38, 3, 6)]) σ0 σ) : zpc (fX7_moveNoise_136 σ) (fun r => (zQ [30, 32, 5, 11, 12] [] [5, 46, 48] [(38, 0, 1), (38, 3, 6)]) σ0 (r)) := by
  unfold fX7_moveNoise_136
  exact zpc_some h
theorem fp_fX7_moveNoise_120 {σ0 : zSt} {σ : zSt} {x2 : Int32} {s0 : Int32} (h : (zQ [30, 32, 5, 11, 12] [] [5, 46, 48] [(38, 0, 1), (38, 3, 6)]) σ0 σ) : zpc (fX7_moveNoise_120 σ x2 s0) (fun r => (zQ [30, 32, 5, 11, 12] [] [5, 46, 48] [(38, 0, 1), (38, 3, 6)]) σ0 (r)) := by
  unfold fX7_moveNoise_120
  exact zpc_ck (zpc_bs (zQ.wi h rfl) (fun σ1 hσ1 => fp_fX7_moveNoise_136 hσ1))
theorem fp_fX7_moveNoise_65 {σ0 : zSt} {σ : zSt} {s0 : Int32} {s1 : Int32} (h : (zQ [30, 32, 5, 11, 12] [] [5, 46, 48] [(38, 0, 1), (38, 3, 6)]) σ0 σ) : zpc (fX7_moveNoise_65 σ s0 s1) (fun r => (zQ [30, 32, 5, 11, 12] [] [5, 46, 48] [(38, 0, 1), (38, 3, 6)]) σ0 (r)) := by
  unfold fX7_moveNoise_65
  exact zpc_ck (zpc_bs (zQ.wi h rfl) (fun σ2 hσ2 => zpc_ck (zpc_ck (zpc_bs (zQ.wi hσ2 rfl) (fun σ3 hσ3 => zpc_ck (zpc_if (fun _ => zpc_ck (zpc_bv (fun v4 _ => zpc_ck (zpc_if (fun _ => fp_fX7_moveNoise_120 hσ3) (fun _ => fp_fX7_moveNoise_120 hσ3))))) (fun _ => fp_fX7_moveNoise_136 hσ3)))))))
theorem fp_fX7_moveNoise {σ0 : zSt} {σ : zSt} (h : (zQ [30, 32, 5, 11, 12] [] [5, 46, 48] [(38, 0, 1), (38, 3, 6)]) σ0 σ) : zpc (fX7_moveNoise σ) (fun r => (zQ [30, 32, 5, 11, 12] [] [5, 46, 48] [(38, 0, 1), (38, 3, 6)]) σ0 (r)) := by
  unfold fX7_moveNoise
  exact zpc_ck (zpc_ck (zpc_bs (zQ.wi h rfl) (fun σ5 hσ5 => zpc_ck (zpc_if (fun _ => zpc_ck (zpc_bv (fun v6 _ => zpc_if (fun _ => zpc_ck (fp_fX7_moveNoise_65 hσ5)) (fun _ => fp_fX7_moveNoise_65 hσ5)))) (fun _ => zpc_some hσ5)))))
theorem fp_fX7_nextSample_87 {σ0 : zSt} {k28 : zSt → Int32 → Int32 → Int32 → Option (zSt × Int32)} (hk28 : ∀ (y0 : zSt) (y1 : Int32) (y2 : Int32) (y3 : Int32), (zQ [30, 32, 5, 11, 12] [] [5, 46, 48] [(38, 0, 1), (38, 3, 6)]) σ0 y0 → zpc (k28 y0 y1 y2 y3) (fun r => (zQ [30, 32, 5, 11, 12] [] [5, 46, 48] [(38, 0, 1), (38, 3, 6)]) σ0 (r.1))) {σ : zSt} {x1 : Int32} {x2 : Int32} {x3 : Int32} {s0 : Int32} (h : (zQ [30, 32, 5, 11, 12] [] [5, 46, 48] [(38, 0, 1), (38, 3, 6)]) σ0 σ) : zpc (fX7_nextSample_87 k28 σ x1 x2 x3 s0) (fun r => (zQ [30, 32, 5, 11, 12] [] [5, 46, 48] [(38, 0, 1), (38, 3, 6)]) σ0 (r.1)) := by
  unfold fX7_nextSample_87
  exact zpc_ck (zpc_bv (fun v1 _ => zpc_ck (zpc_bv (fun v2 _ => zpc_bv (fun v3 _ => hk28 _ _ _ _ h)))))
theorem fp_fX7_nextSample_59 {σ0 : zSt} {k28 : zSt → Int32 → Int32 → Int32 → Option (zSt × Int32)} (hk28 : ∀ (y0 : zSt) (y1 : Int32) (y2 : Int32) (y3 : Int32), (zQ [30, 32, 5, 11, 12] [] [5, 46, 48] [(38, 0, 1), (38, 3, 6)]) σ0 y0 → zpc (k28 y0 y1 y2 y3) (fun r => (zQ [30, 32, 5, 11, 12] [] [5, 46, 48] [(38, 0, 1), (38, 3, 6)]) σ0 (r.1))) {σ : zSt} {x1 : Int32} {x2 : Int32} {x3 : Int32} {s0 : Int32} (h : (zQ [30, 32, 5, 11, 12] [] [5, 46, 48] [(38, 0, 1), (38, 3, 6)]) σ0 σ) : zpc (fX7_nextSample_59 k28 σ x1 x2 x3 s0) (fun r => (zQ [30, 32, 5, 11, 12] [] [5, 46, 48] [(38, 0, 1), (38, 3, 6)]) σ0 (r.1)) := by
  unfold fX7_nextSample_59
  exact zpc_if (fun _ => zpc_ck (zpc_ck (fp_fX7_nextSample_87 hk28 h))) (fun _ => fp_fX7_nextSample_87 hk28 h)
theorem fp_fX7_nextSample_28_body {σ0 : zSt} {k28 : zSt → Int32 → Int32 → Int32 → Option (zSt × Int32)} (hk28 : ∀ (y0 : zSt) (y1 : Int32) (y2 : Int32) (y3 : Int32), (zQ [30, 32, 5, 11, 12] [] [5, 46, 48] [(38, 0, 1), (38, 3, 6)]) σ0 y0 → zpc (k28 y0 y1 y2 y3) (fun r => (zQ [30, 32, 5, 11, 12] [] [5, 46, 48] [(38, 0, 1), (38, 3, 6)]) σ0 (r.1))) {σ : zSt} {x1 : Int32} {x2 : Int32} {x3 : Int32} (h : (zQ [30, 32, 5, 11, 12] [] [5, 46, 48] [(38, 0, 1), (38, 3, 6)]) σ0 σ) : zpc (fX7_nextSample_28_body k28 σ x1 x2 x3) (fun r => (zQ [30, 32, 5, 11, 12] [] [5, 46, 48] [(38, 0, 1), (38, 3, 6)]) σ0 (r.1)) := by
  unfold fX7_nextSample_28_body
  exact zpc_if (fun _ => zpc_some h) (fun _ => zpc_if (fun _ => zpc_ck (fp_fX7_nextSample_59 hk28 h)) (fun _ => zpc_ck (fp_fX7_nextSample_59 hk28 h)))
theorem fp_fX7_nextSample_28 {σ0 : zSt} : ∀ (n : Nat) (y0 : zSt) (y1 : Int32) (y2 : Int32) (y3 : Int32), (zQ [30, 32, 5, 11, 12] [] [5, 46, 48] [(38, 0, 1), (38, 3, 6)]) σ0 y0 → zpc (fX7_nextSample_28 n y0 y1 y2 y3) (fun r => (zQ [30, 32, 5, 11, 12] [] [5, 46, 48] [(38, 0, 1), (38, 3, 6)]) σ0 (r.1)) := by
  intro n
  induction n with
  | zero => intro y0 y1 y2 y3 h; exact zpc_none
  | succ n ih => intro y0 y1 y2 y3 h; exact fp_fX7_nextSample_28_body ih h
theorem fp_fX7_nextSample_2_body {σ0 : zSt} {k2 : zSt → Int32 → Option (zSt × Int32)} (hk2 : ∀ (y0 : zSt) (y1 : Int32), (zQ [30, 32, 5, 11, 12] [] [5, 46, 48] [(38, 0, 1), (38, 3, 6)]) σ0 y0 → zpc (k2 y0 y1) (fun r => (zQ [30, 32, 5, 11, 12] [] [5, 46, 48] [(38, 0, 1), (38, 3, 6)]) σ0 (r.1))) {σ : zSt} {x1 : Int32} (h : (zQ [30, 32, 5, 11, 12] [] [5, 46, 48] [(38, 0, 1), (38, 3, 6)]) σ0 σ) : zpc (fX7_nextSample_2_body k2 σ x1) (fun r => (zQ [30, 32, 5, 11, 12] [] [5, 46, 48] [(38, 0, 1), (38, 3, 6)]) σ0 (r.1)) := by
  unfold fX7_nextSample_2_body
  exact zpc_if (fun _ => zpc_bu (fp_fX7_moveNoise h) (fun σ4 hσ4 => fp_fX7_nextSample_28 _ _ _ _ _ hσ4)) (fun _ => zpc_bu (fp_fX7_moveTone h) (fun σ5 hσ5 => zpc_bv (fun v6 _ => hk2 _ _ hσ5)))
theorem fp_fX7_nextSample_2 {σ0 : zSt} : ∀ (n : Nat) (y0 : zSt) (y1 : Int32), (zQ [30, 32, 5, 11, 12] [] [5, 46, 48] [(38, 0, 1), (38, 3, 6)]) σ0 y0 → zpc (fX7_nextSample_2 n y0 y1) (fun r => (zQ [30, 32, 5, 11, 12] [] [5, 46, 48] [(38, 0, 1), (38, 3, 6)]) σ0 (r.1)) := by
  intro n
  induction n with
  | zero => intro y0 y1 h; exact zpc_none
  | succ n ih => intro y0 y1 h; exact fp_fX7_nextSample_2_body ih h
theorem fp_fX7_nextSample {σ0 : zSt} {σ : zSt} (h : (zQ [30, 32, 5, 11, 12] [] [5, 46, 48] [(38, 0, 1), (38, 3, 6)]) σ0 σ) : zpc (fX7_nextSample σ) (fun r => (zQ [30, 32, 5, 11, 12] [] [5, 46, 48] [(38, 0, 1), (38, 3, 6)]) σ0 (r.1)) := by
  unfold fX7_nextSample
  exact fp_fX7_nextSample_2 _ _ _ h
theorem fp_fX6_add_k11_56 {σ0 : zSt} {σ : zSt} (h : (zQ [30, 32, 5, 11, 12] [] [5, 46, 48] [(38, 0, 1), (38, 3, 6)]) σ0 σ) : zpc (fX6_add_k11_56 σ) (fun r => (zQ [30, 32, 5, 11, 12] [] [5, 46, 48] [(38, 0, 1), (38, 3, 6)]) σ0 (r)) := by
  unfold fX6_add_k11_56
  exact zpc_some h
theorem fp_fX6_add_k11 {σ0 : zSt} {σ : zSt} {x1 : Int64} (h : (zQ [30, 32, 5, 11, 12] [] [5, 46, 48] [(38, 0, 1), (38, 3, 6)]) σ0 σ) : zpc (fX6_add_k11 σ x1) (fun r => (zQ [30, 32, 5, 11, 12] [] [5, 46, 48] [(38, 0, 1), (38, 3, 6)]) σ0 (r)) := by
  unfold fX6_add_k11
  exact zpc_ck (zpc_bs (zQ.wl h rfl) (fun σ1 hσ1 => zpc_if (fun _ => zpc_bs (zQ.wi hσ1 rfl) (fun σ2 hσ2 => fp_fX6_add_k11_56 hσ2)) (fun _ => zpc_bs (zQ.wi hσ1 rfl) (fun σ3 hσ3 => fp_fX6_add_k11_56 hσ3))))
theorem fp_fX0_addSample {σ0 : zSt} {σ : zSt} (h : (zQ [30, 32, 5, 11, 12] [] [5, 46, 48] [(38, 0, 1), (38, 3, 6)]) σ0 σ) : zpc (fX0_addSample σ) (fun r => (zQ [30, 32, 5, 11, 12] [] [5, 46, 48] [(38, 0, 1), (38, 3, 6)]) σ0 (r)) := by
  unfold fX0_addSample
  exact zpc_bi (fp_fX7_nextSample h) (fun σ1 v2 hσ1 => zpc_bu (fp_fX6_add_k11 hσ1) (fun σ3 hσ3 => zpc_ck (zpc_ck (zpc_bs (zQ.wl hσ3 rfl) (fun σ4 hσ4 => zpc_ck (zpc_ck (zpc_bs (zQ.wl hσ4 rfl) (fun σ5 hσ5 => zpc_ck (zpc_ck (zpc_bs (zQ.wl hσ5 rfl) (fun σ6 hσ6 => zpc_ck (zpc_ck (zpc_bs (zQ.wl hσ6 rfl) (fun σ7 hσ7 => zpc_some hσ7))))))))))))))
theorem fp_fX10_takeOwnPatch_7_body {σ0 : zSt} {k7 : zSt → Int32 → Option (zSt)} (hk7 : ∀ (y0 : zSt) (y1 : Int32), (zQ [30, 32, 5, 11, 12] [] [5, 46, 48] [(38, 0, 1), (38, 3, 6)]) σ0 y0 → zpc (k7 y0 y1) (fun r => (zQ [30, 32, 5, 11, 12] [] [5, 46, 48] [(38, 0, 1), (38, 3, 6)]) σ0 (r))) {σ : zSt} {x1 : Int32} (h : (zQ [30, 32, 5, 11, 12] [] [5, 46, 48] [(38, 0, 1), (38, 3, 6)]) σ0 σ) : zpc (fX10_takeOwnPatch_7_body k7 σ x1) (fun r => (zQ [30, 32, 5, 11, 12] [] [5, 46, 48] [(38, 0, 1), (38, 3, 6)]) σ0 (r)) := by
  unfold fX10_takeOwnPatch_7_body
  exact zpc_if (fun _ => zpc_some h) (fun _ => zpc_ck (zpc_bs (zQ.wl h rfl) (fun σ1 hσ1 => zpc_bv (fun v2 _ => hk7 _ _ hσ1))))
theorem fp_fX10_takeOwnPatch_7 {σ0 : zSt} : ∀ (n : Nat) (y0 : zSt) (y1 : Int32), (zQ [30, 32, 5, 11, 12] [] [5, 46, 48] [(38, 0, 1), (38, 3, 6)]) σ0 y0 → zpc (fX10_takeOwnPatch_7 n y0 y1) (fun r => (zQ [30, 32, 5, 11, 12] [] [5, 46, 48] [(38, 0, 1), (38, 3, 6)]) σ0 (r)) := by
  intro n
  induction n with
  | zero => intro y0 y1 h; exact zpc_none
  | succ n ih => intro y0 y1 h; exact fp_fX10_takeOwnPatch_7_body ih h
theorem fp_fX10_takeOwnPatch {σ0 : zSt} {σ : zSt} (h : (zQ [30, 32, 5, 11, 12] [] [5, 46, 48] [(38, 0, 1), (38, 3, 6)]) σ0 σ) : zpc (fX10_takeOwnPatch σ) (fun r => (zQ [30, 32, 5, 11, 12] [] [5, 46, 48] [(38, 0, 1), (38, 3, 6)]) σ0 (r)) := by
  unfold fX10_takeOwnPatch
  exact zpc_bs (zQ.wl h rfl) (fun σ3 hσ3 => fp_fX10_takeOwnPatch_7 _ _ _ hσ3)
theorem fp_fX10_takeChannel_110 {σ0 : zSt} {σ : zSt} {s0 : Int64} (h : (zQ [30, 32, 5, 11, 12] [] [5, 46, 48] [(38, 0, 1), (38, 3, 6)]) σ0 σ) : zpc (fX10_takeChannel_110 σ s0) (fun r => (zQ [30, 32, 5, 11, 12] [] [5, 46, 48] [(38, 0, 1), (38, 3, 6)]) σ0 (r)) := by
  unfold fX10_takeChannel_110
  exact zpc_bs (zQ.wl h rfl) (fun σ1 hσ1 => zpc_some hσ1)
theorem fp_fX10_takeChannel_106 {σ0 : zSt} {σ : zSt} (h : (zQ [30, 32, 5, 11, 12] [] [5, 46, 48] [(38, 0, 1), (38, 3, 6)]) σ0 σ) : zpc (fX10_takeChannel_106 σ) (fun r => (zQ [30, 32, 5, 11, 12] [] [5, 46, 48] [(38, 0, 1), (38, 3, 6)]) σ0 (r)) := by
  unfold fX10_takeChannel_106
  exact fp_fX10_takeChannel_110 h
theorem fp_fX10_takeChannel_82 {σ0 : zSt} {σ : zSt} {s0 : Int32} (h : (zQ [30, 32, 5, 11, 12] [] [5, 46, 48] [(38, 0, 1), (38, 3, 6)]) σ0 σ) : zpc (fX10_takeChannel_82 σ s0) (fun r => (zQ [30, 32, 5, 11, 12] [] [5, 46, 48] [(38, 0, 1), (38, 3, 6)]) σ0 (r)) := by
  unfold fX10_takeChannel_82
  exact zpc_if (fun _ => fp_fX10_takeChannel_106 h) (fun _ => zpc_if (fun _ => fp_fX10_takeChannel_106 h) (fun _ => zpc_ck (fp_fX10_takeChannel_110 h)))
theorem fp_fX10_takeChannel_71 {σ0 : zSt} {σ : zSt} {x1 : Int32} (h : (zQ [30, 32, 5, 11, 12] [] [5, 46, 48] [(38, 0, 1), (38, 3, 6)]) σ0 σ) : zpc (fX10_takeChannel_71 σ x1) (fun r => (zQ [30, 32, 5, 11, 12] [] [5, 46, 48] [(38, 0, 1), (38, 3, 6)]) σ0 (r)) := by
  unfold fX10_takeChannel_71
  exact zpc_ck (fp_fX10_takeChannel_82 h)
theorem fp_fX10_takeChannel {σ0 : zSt} {σ : zSt} {x1 : Int32} (h : (zQ [30, 32, 5, 11, 12] [] [5, 46, 48] [(38, 0, 1), (38, 3, 6)]) σ0 σ) : zpc (fX10_takeChannel σ x1) (fun r => (zQ [30, 32, 5, 11, 12] [] [5, 46, 48] [(38, 0, 1), (38, 3, 6)]) σ0 (r)) := by
  unfold fX10_takeChannel
  exact zpc_bs (zQ.wi h rfl) (fun σ2 hσ2 => zpc_ck (zpc_ck (zpc_bs (zQ.wi hσ2 rfl) (fun σ3 hσ3 => zpc_ck (zpc_bs (zQ.wi hσ3 rfl) (fun σ4 hσ4 => zpc_if (fun _ => fp_fX10_takeChannel_71 hσ4) (fun _ => zpc_if (fun _ => fp_fX10_takeChannel_71 hσ4) (fun _ => fp_fX10_takeChannel_82 hσ4))))))))
theorem fp_fX10_isOn_131 {σ0 : zSt} {σ : zSt} {s0 : Int32} (h : (zQ [30, 32, 5, 11, 12] [] [5, 46, 48] [(38, 0, 1), (38, 3, 6)]) σ0 σ) : zpc (fX10_isOn_131 σ s0) (fun r => (zQ [30, 32, 5, 11, 12] [] [5, 46, 48] [(38, 0, 1), (38, 3, 6)]) σ0 (r.1)) := by
  unfold fX10_isOn_131
  exact zpc_ck (zpc_some h)
theorem fp_fX10_isOn_122 {σ0 : zSt} {σ : zSt} {s0 : Int32} {s1 : Int32} (h : (zQ [30, 32, 5, 11, 12] [] [5, 46, 48] [(38, 0, 1), (38, 3, 6)]) σ0 σ) : zpc (fX10_isOn_122 σ s0 s1) (fun r => (zQ [30, 32, 5, 11, 12] [] [5, 46, 48] [(38, 0, 1), (38, 3, 6)]) σ0 (r.1)) := by
  unfold fX10_isOn_122
  exact zpc_if (fun _ => fp_fX10_isOn_131 h) (fun _ => fp_fX10_isOn_131 h)
theorem fp_fX10_isOn_105 {σ0 : zSt} {σ : zSt} {s0 : Int32} (h : (zQ [30, 32, 5, 11, 12] [] [5, 46, 48] [(38, 0, 1), (38, 3, 6)]) σ0 σ) : zpc (fX10_isOn_105 σ s0) (fun r => (zQ [30, 32, 5, 11, 12] [] [5, 46, 48] [(38, 0, 1), (38, 3, 6)]) σ0 (r.1)) := by
  unfold fX10_isOn_105
  exact zpc_ck (zpc_some h)
theorem fp_fX10_isOn_96 {σ0 : zSt} {σ : zSt} {s0 : Int32} {s1 : Int32} (h : (zQ [30, 32, 5, 11, 12] [] [5, 46, 48] [(38, 0, 1), (38, 3, 6)]) σ0 σ) : zpc (fX10_isOn_96 σ s0 s1) (fun r => (zQ [30, 32, 5, 11, 12] [] [5, 46, 48] [(38, 0, 1), (38, 3, 6)]) σ0 (r.1)) := by
  unfold fX10_isOn_96
  exact zpc_if (fun _ => fp_fX10_isOn_105 h) (fun _ => fp_fX10_isOn_105 h)
theorem fp_fX10_isOn_78 {σ0 : zSt} {σ : zSt} {s0 : Int32} (h : (zQ [30, 32, 5, 11, 12] [] [5, 46, 48] [(38, 0, 1), (38, 3, 6)]) σ0 σ) : zpc (fX10_isOn_78 σ s0) (fun r => (zQ [30, 32, 5, 11, 12] [] [5, 46, 48] [(38, 0, 1), (38, 3, 6)]) σ0 (r.1)) := by
  unfold fX10_isOn_78
  exact zpc_ck (zpc_some h)
theorem fp_fX10_isOn {σ0 : zSt} {σ : zSt} {x1 : Int32} (h : (zQ [30, 32, 5, 11, 12] [] [5, 46, 48] [(38, 0, 1), (38, 3, 6)]) σ0 σ) : zpc (fX10_isOn σ x1) (fun r => (zQ [30, 32, 5, 11, 12] [] [5, 46, 48] [(38, 0, 1), (38, 3, 6)]) σ0 (r.1)) := by
  unfold fX10_isOn
  exact zpc_ck (zpc_if (fun _ => zpc_if (fun _ => zpc_ck (zpc_some h)) (fun _ => zpc_if (fun _ => zpc_ck (zpc_if (fun _ => fp_fX10_isOn_78 h) (fun _ => fp_fX10_isOn_78 h))) (fun _ => zpc_if (fun _ => zpc_ck (zpc_if (fun _ => fp_fX10_isOn_96 h) (fun _ => fp_fX10_isOn_96 h))) (fun _ => zpc_if (fun _ => zpc_ck (zpc_if (fun _ => fp_fX10_isOn_122 h) (fun _ => fp_fX10_isOn_122 h))) (fun _ => zpc_ck (zpc_some h)))))) (fun _ => zpc_ck (zpc_some h)))
theorem fp_fX10_part {σ0 : zSt} {σ : zSt} {x1 : Int32} (h : (zQ [30, 32, 5, 11, 12] [] [5, 46, 48] [(38, 0, 1), (38, 3, 6)]) σ0 σ) : zpc (fX10_part σ x1) (fun r => (zQ [30, 32, 5, 11, 12] [] [5, 46, 48] [(38, 0, 1), (38, 3, 6)]) σ0 (r.1)) := by
  unfold fX10_part
  exact zpc_some h
theorem fp_fX10_rateIn_126 {σ0 : zSt} {σ : zSt} {s0 : Int32} (h : (zQ [30, 32, 5, 11, 12] [] [5, 46, 48] [(38, 0, 1), (38, 3, 6)]) σ0 σ) : zpc (fX10_rateIn_126 σ s0) (fun r => (zQ [30, 32, 5, 11, 12] [] [5, 46, 48] [(38, 0, 1), (38, 3, 6)]) σ0 (r.1)) := by
  unfold fX10_rateIn_126
  exact zpc_some h
theorem fp_fX10_rateIn_94 {σ0 : zSt} {σ : zSt} {s0 : Int32} (h : (zQ [30, 32, 5, 11, 12] [] [5, 46, 48] [(38, 0, 1), (38, 3, 6)]) σ0 σ) : zpc (fX10_rateIn_94 σ s0) (fun r => (zQ [30, 32, 5, 11, 12] [] [5, 46, 48] [(38, 0, 1), (38, 3, 6)]) σ0 (r.1)) := by
  unfold fX10_rateIn_94
  exact zpc_some h
theorem fp_fX10_rateIn_16 {σ0 : zSt} {σ : zSt} {x1 : Int32} {x2 : Int32} {s0 : Int32} (h : (zQ [30, 32, 5, 11, 12] [] [5, 46, 48] [(38, 0, 1), (38, 3, 6)]) σ0 σ) : zpc (fX10_rateIn_16 σ x1 x2 s0) (fun r => (zQ [30, 32, 5, 11, 12] [] [5, 46, 48] [(38, 0, 1), (38, 3, 6)]) σ0 (r.1)) := by
  unfold fX10_rateIn_16
  exact zpc_bi (fp_fX10_part h) (fun σ1 v2 hσ1 => zpc_bv (fun v3 _ => zpc_if (fun _ => zpc_some hσ1) (fun _ => zpc_if (fun _ => zpc_bi (fp_fX10_part hσ1) (fun σ4 v5 hσ4 => zpc_some hσ4)) (fun _ => zpc_if (fun _ => zpc_bi (fp_fX10_part hσ1) (fun σ6 v7 hσ6 => zpc_some hσ6)) (fun _ => zpc_if (fun _ => zpc_if (fun _ => fp_fX10_rateIn_94 hσ1) (fun _ => fp_fX10_rateIn_94 hσ1)) (fun _ => zpc_ck (zpc_if (fun _ => zpc_if (fun _ => fp_fX10_rateIn_126 hσ1) (fun _ => fp_fX10_rateIn_126 hσ1)) (fun _ => zpc_some hσ1))))))))
theorem fp_fX10_rateIn {σ0 : zSt} {σ : zSt} {x1 : Int32} {x2 : Int32} (h : (zQ [30, 32, 5, 11, 12] [] [5, 46, 48] [(38, 0, 1), (38, 3, 6)]) σ0 σ) : zpc (fX10_rateIn σ x1 x2) (fun r => (zQ [30, 32, 5, 11, 12] [] [5, 46, 48] [(38, 0, 1), (38, 3, 6)]) σ0 (r.1)) := by
  unfold fX10_rateIn
  exact zpc_bi (fp_fX10_part h) (fun σ8 v9 hσ8 => zpc_if (fun _ => fp_fX10_rateIn_16 hσ8) (fun _ => fp_fX10_rateIn_16 hσ8))
theorem fp_fX10_slowTick {σ0 : zSt} {σ : zSt} (h : (zQ [30, 32, 5, 11, 12] [] [5, 46, 48] [(38, 0, 1), (38, 3, 6)]) σ0 σ) : zpc (fX10_slowTick σ) (fun r => (zQ [30, 32, 5, 11, 12] [] [5, 46, 48] [(38, 0, 1), (38, 3, 6)]) σ0 (r.1)) := by
  unfold fX10_slowTick
  exact zpc_ck (zpc_some h)
theorem fp_fX10_tickAt_53 {σ0 : zSt} {σ : zSt} {s0 : Int32} (h : (zQ [30, 32, 5, 11, 12] [] [5, 46, 48] [(38, 0, 1), (38, 3, 6)]) σ0 σ) : zpc (fX10_tickAt_53 σ s0) (fun r => (zQ [30, 32, 5, 11, 12] [] [5, 46, 48] [(38, 0, 1), (38, 3, 6)]) σ0 (r.1)) := by
  unfold fX10_tickAt_53
  exact zpc_some h
theorem fp_fX10_tickAt_26 {σ0 : zSt} {σ : zSt} {x2 : Int32} {x3 : Int32} {s0 : Int32} (h : (zQ [30, 32, 5, 11, 12] [] [5, 46, 48] [(38, 0, 1), (38, 3, 6)]) σ0 σ) : zpc (fX10_tickAt_26 σ x2 x3 s0) (fun r => (zQ [30, 32, 5, 11, 12] [] [5, 46, 48] [(38, 0, 1), (38, 3, 6)]) σ0 (r.1)) := by
  unfold fX10_tickAt_26
  exact zpc_if (fun _ => fp_fX10_tickAt_53 h) (fun _ => zpc_ck (fp_fX10_tickAt_53 h))
theorem fp_fX10_tickAt {σ0 : zSt} {σ : zSt} {x1 : Int32} {x2 : Int32} (h : (zQ [30, 32, 5, 11, 12] [] [5, 46, 48] [(38, 0, 1), (38, 3, 6)]) σ0 σ) : zpc (fX10_tickAt σ x1 x2) (fun r => (zQ [30, 32, 5, 11, 12] [] [5, 46, 48] [(38, 0, 1), (38, 3, 6)]) σ0 (r.1)) := by
  unfold fX10_tickAt
  exact zpc_bv (fun v1 _ => zpc_ck (zpc_if (fun _ => fp_fX10_tickAt_26 h) (fun _ => fp_fX10_tickAt_26 h)))
theorem fp_fX10_louder_56 {σ0 : zSt} {σ : zSt} {s0 : Int32} (h : (zQ [30, 32, 5, 11, 12] [] [5, 46, 48] [(38, 0, 1), (38, 3, 6)]) σ0 σ) : zpc (fX10_louder_56 σ s0) (fun r => (zQ [30, 32, 5, 11, 12] [] [5, 46, 48] [(38, 0, 1), (38, 3, 6)]) σ0 (r.1)) := by
  unfold fX10_louder_56
  exact zpc_some h
theorem fp_fX10_louder {σ0 : zSt} {σ : zSt} {x1 : Int32} {x2 : Int32} {x3 : Int32} (h : (zQ [30, 32, 5, 11, 12] [] [5, 46, 48] [(38, 0, 1), (38, 3, 6)]) σ0 σ) : zpc (fX10_louder σ x1 x2 x3) (fun r => (zQ [30, 32, 5, 11, 12] [] [5, 46, 48] [(38, 0, 1), (38, 3, 6)]) σ0 (r.1)) := by
  unfold fX10_louder
  exact zpc_if (fun _ => zpc_some h) (fun _ => zpc_if (fun _ => zpc_bi (fp_fX10_tickAt h) (fun σ1 v2 hσ1 => zpc_if (fun _ => zpc_ck (fp_fX10_louder_56 hσ1)) (fun _ => fp_fX10_louder_56 hσ1))) (fun _ => zpc_bi (fp_fX10_slowTick h) (fun σ3 v4 hσ3 => zpc_some hσ3)))
theorem fp_fX10_softer {σ0 : zSt} {σ : zSt} {x1 : Int32} {x2 : Int32} (h : (zQ [30, 32, 5, 11, 12] [] [5, 46, 48] [(38, 0, 1), (38, 3, 6)]) σ0 σ) : zpc (fX10_softer σ x1 x2) (fun r => (zQ [30, 32, 5, 11, 12] [] [5, 46, 48] [(38, 0, 1), (38, 3, 6)]) σ0 (r.1)) := by
  unfold fX10_softer
  exact zpc_if (fun _ => zpc_bi (fp_fX10_slowTick h) (fun σ1 v2 hσ1 => zpc_ck (zpc_some hσ1))) (fun _ => zpc_if (fun _ => zpc_bi (fp_fX10_slowTick h) (fun σ3 v4 hσ3 => zpc_some hσ3)) (fun _ => zpc_if (fun _ => zpc_some h) (fun _ => zpc_bi (fp_fX10_tickAt h) (fun σ5 v6 hσ5 => zpc_some hσ5))))
theorem fp_fX10_moveLevel_148 {σ0 : zSt} {σ : zSt} (h : (zQ [30, 32, 5, 11, 12] [] [5, 46, 48] [(38, 0, 1), (38, 3, 6)]) σ0 σ) : zpc (fX10_moveLevel_148 σ) (fun r => (zQ [30, 32, 5, 11, 12] [] [5, 46, 48] [(38, 0, 1), (38, 3, 6)]) σ0 (r)) := by
  unfold fX10_moveLevel_148
  exact zpc_some h
theorem fp_fX10_moveLevel_52 {σ0 : zSt} {σ : zSt} {x1 : Int32} {x3 : Int32} {x4 : Int32} (h : (zQ [30, 32, 5, 11, 12] [] [5, 46, 48] [(38, 0, 1), (38, 3, 6)]) σ0 σ) : zpc (fX10_moveLevel_52 σ x1 x3 x4) (fun r => (zQ [30, 32, 5, 11, 12] [] [5, 46, 48] [(38, 0, 1), (38, 3, 6)]) σ0 (r)) := by
  unfold fX10_moveLevel_52
  exact zpc_ck (zpc_bv (fun v1 _ => zpc_ck (zpc_bv (fun v2 _ => zpc_ck (zpc_if (fun _ => zpc_ck (zpc_bi (fp_fX10_louder h) (fun σ6 v7 hσ6 => zpc_ck (zpc_bs (zQ.wi hσ6 rfl) (fun σ8 hσ8 => fp_fX10_moveLevel_148 hσ8))))) (fun _ => zpc_ck (zpc_bi (fp_fX10_softer h) (fun σ3 v4 hσ3 => zpc_ck (zpc_bs (zQ.wi hσ3 rfl) (fun σ5 hσ5 => fp_fX10_moveLevel_148 hσ5))))))))))
theorem fp_fX10_moveLevel {σ0 : zSt} {σ : zSt} {x1 : Int32} {x2 : Int32} (h : (zQ [30, 32, 5, 11, 12] [] [5, 46, 48] [(38, 0, 1), (38, 3, 6)]) σ0 σ) : zpc (fX10_moveLevel σ x1 x2) (fun r => (zQ [30, 32, 5, 11, 12] [] [5, 46, 48] [(38, 0, 1), (38, 3, 6)]) σ0 (r)) := by
  unfold fX10_moveLevel
  exact zpc_ck (zpc_bi (fp_fX10_rateIn h) (fun σ9 v10 hσ9 => zpc_if (fun _ => zpc_some hσ9) (fun _ => zpc_bv (fun v11 _ => zpc_bi (fp_fX10_part hσ9) (fun σ12 v13 hσ12 => zpc_if (fun _ => zpc_ck (zpc_bv (fun v14 _ => fp_fX10_moveLevel_52 hσ12))) (fun _ => fp_fX10_moveLevel_52 hσ12))))))
theorem fp_fX10_moveState_96 {σ0 : zSt} {σ : zSt} (h : (zQ [30, 32, 5, 11, 12] [] [5, 46, 48] [(38, 0, 1), (38, 3, 6)]) σ0 σ) : zpc (fX10_moveState_96 σ) (fun r => (zQ [30, 32, 5, 11, 12] [] [5, 46, 48] [(38, 0, 1), (38, 3, 6)]) σ0 (r)) := by
  unfold fX10_moveState_96
  exact zpc_some h
theorem fp_fX10_moveState_73 {σ0 : zSt} {σ : zSt} {x1 : Int32} {x2 : Int32} {x3 : Int32} {x4 : Int32} (h : (zQ [30, 32, 5, 11, 12] [] [5, 46, 48] [(38, 0, 1), (38, 3, 6)]) σ0 σ) : zpc (fX10_moveState_73 σ x1 x2 x3 x4) (fun r => (zQ [30, 32, 5, 11, 12] [] [5, 46, 48] [(38, 0, 1), (38, 3, 6)]) σ0 (r)) := by
  unfold fX10_moveState_73
  exact zpc_if (fun _ => zpc_ck (zpc_if (fun _ => fp_fX10_moveState_96 h) (fun _ => zpc_ck (zpc_bs (zQ.wi h rfl) (fun σ1 hσ1 => fp_fX10_moveState_96 hσ1))))) (fun _ => fp_fX10_moveState_96 h)
theorem fp_fX10_moveState_51 {σ0 : zSt} {σ : zSt} {x1 : Int32} {x2 : Int32} {x3 : Int32} {x4 : Int32} (h : (zQ [30, 32, 5, 11, 12] [] [5, 46, 48] [(38, 0, 1), (38, 3, 6)]) σ0 σ) : zpc (fX10_moveState_51 σ x1 x2 x3 x4) (fun r => (zQ [30, 32, 5, 11, 12] [] [5, 46, 48] [(38, 0, 1), (38, 3, 6)]) σ0 (r)) := by
  unfold fX10_moveState_51
  exact zpc_if (fun _ => zpc_if (fun _ => zpc_ck (zpc_bs (zQ.wi h rfl) (fun σ2 hσ2 => fp_fX10_moveState_96 hσ2))) (fun _ => fp_fX10_moveState_73 h)) (fun _ => fp_fX10_moveState_73 h)
theorem fp_fX10_moveState {σ0 : zSt} {σ : zSt} {x1 : Int32} {x2 : Int32} (h : (zQ [30, 32, 5, 11, 12] [] [5, 46, 48] [(38, 0, 1), (38, 3, 6)]) σ0 σ) : zpc (fX10_moveState σ x1 x2) (fun r => (zQ [30, 32, 5, 11, 12] [] [5, 46, 48] [(38, 0, 1), (38, 3, 6)]) σ0 (r)) := by
  unfold fX10_moveState
  exact zpc_ck (zpc_bv (fun v3 _ => zpc_ck (zpc_bv (fun v4 _ => zpc_if (fun _ => zpc_if (fun _ => fp_fX10_moveState_51 h) (fun _ => zpc_ck (zpc_bs (zQ.wi h rfl) (fun σ5 hσ5 => zpc_ck (zpc_bs (zQ.wi hσ5 rfl) (fun σ6 hσ6 => fp_fX10_moveState_96 hσ6)))))) (fun _ => fp_fX10_moveState_51 h)))))
theorem fp_fX10_sway_56 {σ0 : zSt} {σ : zSt} {x1 : Int32} (h : (zQ [30, 32, 5, 11, 12] [] [5, 46, 48] [(38, 0, 1), (38, 3, 6)]) σ0 σ) : zpc (fX10_sway_56 σ x1) (fun r => (zQ [30, 32, 5, 11, 12] [] [5, 46, 48] [(38, 0, 1), (38, 3, 6)]) σ0 (r.1)) := by
  unfold fX10_sway_56
  exact zpc_ck (zpc_some h)
theorem fp_fX10_sway_70 {σ0 : zSt} {σ : zSt} (h : (zQ [30, 32, 5, 11, 12] [] [5, 46, 48] [(38, 0, 1), (38, 3, 6)]) σ0 σ) : zpc (fX10_sway_70 σ) (fun r => (zQ [30, 32, 5, 11, 12] [] [5, 46, 48] [(38, 0, 1), (38, 3, 6)]) σ0 (r.1)) := by
  unfold fX10_sway_70
  exact zpc_some h
theorem fp_fX10_sway_62 {σ0 : zSt} {σ : zSt} {x1 : Int32} (h : (zQ [30, 32, 5, 11, 12] [] [5, 46, 48] [(38, 0, 1), (38, 3, 6)]) σ0 σ) : zpc (fX10_sway_62 σ x1) (fun r => (zQ [30, 32, 5, 11, 12] [] [5, 46, 48] [(38, 0, 1), (38, 3, 6)]) σ0 (r.1)) := by
  unfold fX10_sway_62
  exact zpc_ck (zpc_some h)
theorem fp_fX10_sway {σ0 : zSt} {σ : zSt} {x1 : Int32} (h : (zQ [30, 32, 5, 11, 12] [] [5, 46, 48] [(38, 0, 1), (38, 3, 6)]) σ0 σ) : zpc (fX10_sway σ x1) (fun r => (zQ [30, 32, 5, 11, 12] [] [5, 46, 48] [(38, 0, 1), (38, 3, 6)]) σ0 (r.1)) := by
  unfold fX10_sway
  exact zpc_ck (zpc_if (fun _ => fp_fX10_sway_56 h) (fun _ => zpc_if (fun _ => zpc_some h) (fun _ => zpc_if (fun _ => fp_fX10_sway_56 h) (fun _ => zpc_if (fun _ => fp_fX10_sway_70 h) (fun _ => zpc_if (fun _ => fp_fX10_sway_62 h) (fun _ => zpc_if (fun _ => zpc_some h) (fun _ => zpc_if (fun _ => fp_fX10_sway_62 h) (fun _ => fp_fX10_sway_70 h))))))))
theorem fp_fX10_movePhase_22 {σ0 : zSt} {σ : zSt} {x1 : Int32} {x2 : Int32} {s0 : Int32} (h : (zQ [30, 32, 5, 11, 12] [] [5, 46, 48] [(38, 0, 1), (38, 3, 6)]) σ0 σ) : zpc (fX10_movePhase_22 σ x1 x2 s0) (fun r => (zQ [30, 32, 5, 11, 12] [] [5, 46, 48] [(38, 0, 1), (38, 3, 6)]) σ0 (r)) := by
  unfold fX10_movePhase_22
  exact zpc_ck (zpc_ck (zpc_bv (fun v1 _ => zpc_ck (zpc_ck (zpc_bs (zQ.wi h rfl) (fun σ2 hσ2 => zpc_some hσ2))))))
theorem fp_fX10_movePhase {σ0 : zSt} {σ : zSt} {x1 : Int32} {x2 : Int32} (h : (zQ [30, 32, 5, 11, 12] [] [5, 46, 48] [(38, 0, 1), (38, 3, 6)]) σ0 σ) : zpc (fX10_movePhase σ x1 x2) (fun r => (zQ [30, 32, 5, 11, 12] [] [5, 46, 48] [(38, 0, 1), (38, 3, 6)]) σ0 (r)) := by
  unfold fX10_movePhase
  exact zpc_if (fun _ => fp_fX10_movePhase_22 h) (fun _ => zpc_ck (zpc_bi (fp_fX10_sway h) (fun σ3 v4 hσ3 => fp_fX10_movePhase_22 hσ3)))
theorem fp_fX10_drumPhase_115 {σ0 : zSt} {σ : zSt} {s0 : Int32} (h : (zQ [30, 32, 5, 11, 12] [] [5, 46, 48] [(38, 0, 1), (38, 3, 6)]) σ0 σ) : zpc (fX10_drumPhase_115 σ s0) (fun r => (zQ [30, 32, 5, 11, 12] [] [5, 46, 48] [(38, 0, 1), (38, 3, 6)]) σ0 (r.1)) := by
  unfold fX10_drumPhase_115
  exact zpc_some h
theorem fp_fX10_drumPhase_155 {σ0 : zSt} {σ : zSt} {s0 : Int32} (h : (zQ [30, 32, 5, 11, 12] [] [5, 46, 48] [(38, 0, 1), (38, 3, 6)]) σ0 σ) : zpc (fX10_drumPhase_155 σ s0) (fun r => (zQ [30, 32, 5, 11, 12] [] [5, 46, 48] [(38, 0, 1), (38, 3, 6)]) σ0 (r.1)) := by
  unfold fX10_drumPhase_155
  exact zpc_some h
theorem fp_fX10_drumPhase_193 {σ0 : zSt} {σ : zSt} {s0 : Int32} (h : (zQ [30, 32, 5, 11, 12] [] [5, 46, 48] [(38, 0, 1), (38, 3, 6)]) σ0 σ) : zpc (fX10_drumPhase_193 σ s0) (fun r => (zQ [30, 32, 5, 11, 12] [] [5, 46, 48] [(38, 0, 1), (38, 3, 6)]) σ0 (r.1)) := by
  unfold fX10_drumPhase_193
  exact zpc_some h
theorem fp_fX10_drumPhase_82 {σ0 : zSt} {σ : zSt} {x1 : Int32} {x2 : Int32} {x5 : Int32} {s0 : Int32} (h : (zQ [30, 32, 5, 11, 12] [] [5, 46, 48] [(38, 0, 1), (38, 3, 6)]) σ0 σ) : zpc (fX10_drumPhase_82 σ x1 x2 x5 s0) (fun r => (zQ [30, 32, 5, 11, 12] [] [5, 46, 48] [(38, 0, 1), (38, 3, 6)]) σ0 (r.1)) := by
  unfold fX10_drumPhase_82
  exact zpc_if (fun _ => zpc_if (fun _ => fp_fX10_drumPhase_115 h) (fun _ => zpc_if (fun _ => fp_fX10_drumPhase_115 h) (fun _ => fp_fX10_drumPhase_115 h))) (fun _ => zpc_if (fun _ => zpc_if (fun _ => zpc_if (fun _ => fp_fX10_drumPhase_155 h) (fun _ => fp_fX10_drumPhase_155 h)) (fun _ => zpc_if (fun _ => fp_fX10_drumPhase_155 h) (fun _ => fp_fX10_drumPhase_155 h))) (fun _ => zpc_if (fun _ => zpc_if (fun _ => fp_fX10_drumPhase_193 h) (fun _ => fp_fX10_drumPhase_193 h)) (fun _ => zpc_if (fun _ => fp_fX10_drumPhase_193 h) (fun _ => fp_fX10_drumPhase_193 h))))
theorem fp_fX10_drumPhase_62 {σ0 : zSt} {σ : zSt} {x1 : Int32} {x2 : Int32} {s0 : Int32} (h : (zQ [30, 32, 5, 11, 12] [] [5, 46, 48] [(38, 0, 1), (38, 3, 6)]) σ0 σ) : zpc (fX10_drumPhase_62 σ x1 x2 s0) (fun r => (zQ [30, 32, 5, 11, 12] [] [5, 46, 48] [(38, 0, 1), (38, 3, 6)]) σ0 (r.1)) := by
  unfold fX10_drumPhase_62
  exact zpc_ck (zpc_if (fun _ => fp_fX10_drumPhase_82 h) (fun _ => fp_fX10_drumPhase_82 h))
theorem fp_fX10_drumPhase {σ0 : zSt} {σ : zSt} {x1 : Int32} {x2 : Int32} (h : (zQ [30, 32, 5, 11, 12] [] [5, 46, 48] [(38, 0, 1), (38, 3, 6)]) σ0 σ) : zpc (fX10_drumPhase σ x1 x2) (fun r => (zQ [30, 32, 5, 11, 12] [] [5, 46, 48] [(38, 0, 1), (38, 3, 6)]) σ0 (r.1)) := by
  unfold fX10_drumPhase
  exact zpc_ck (zpc_bv (fun v1 _ => zpc_ck (zpc_bv (fun v2 _ => zpc_if (fun _ => fp_fX10_drumPhase_62 h) (fun _ => fp_fX10_drumPhase_62 h)))))
theorem fp_fX10_turnedPhase_98 {σ0 : zSt} {σ : zSt} {s0 : Int32} (h : (zQ [30, 32, 5, 11, 12] [] [5, 46, 48] [(38, 0, 1), (38, 3, 6)]) σ0 σ) : zpc (fX10_turnedPhase_98 σ s0) (fun r => (zQ [30, 32, 5, 11, 12] [] [5, 46, 48] [(38, 0, 1), (38, 3, 6)]) σ0 (r.1)) := by
  unfold fX10_turnedPhase_98
  exact zpc_some h
theorem fp_fX10_turnedPhase_35 {σ0 : zSt} {σ : zSt} {x1 : Int32} {x2 : Int32} {x3 : Int32} (h : (zQ [30, 32, 5, 11, 12] [] [5, 46, 48] [(38, 0, 1), (38, 3, 6)]) σ0 σ) : zpc (fX10_turnedPhase_35 σ x1 x2 x3) (fun r => (zQ [30, 32, 5, 11, 12] [] [5, 46, 48] [(38, 0, 1), (38, 3, 6)]) σ0 (r.1)) := by
  unfold fX10_turnedPhase_35
  exact zpc_if (fun _ => zpc_ck (zpc_some h)) (fun _ => zpc_bi (fp_fX10_part h) (fun σ1 v2 hσ1 => zpc_bv (fun v3 _ => zpc_if (fun _ => fp_fX10_turnedPhase_98 hσ1) (fun _ => zpc_ck (zpc_ck (fp_fX10_turnedPhase_98 hσ1))))))
theorem fp_fX10_turnedPhase {σ0 : zSt} {σ : zSt} {x1 : Int32} {x2 : Int32} (h : (zQ [30, 32, 5, 11, 12] [] [5, 46, 48] [(38, 0, 1), (38, 3, 6)]) σ0 σ) : zpc (fX10_turnedPhase σ x1 x2) (fun r => (zQ [30, 32, 5, 11, 12] [] [5, 46, 48] [(38, 0, 1), (38, 3, 6)]) σ0 (r.1)) := by
  unfold fX10_turnedPhase
  exact zpc_ck (zpc_bv (fun v4 _ => zpc_if (fun _ => fp_fX10_turnedPhase_35 h) (fun _ => zpc_if (fun _ => fp_fX10_turnedPhase_35 h) (fun _ => zpc_bi (fp_fX10_drumPhase h) (fun σ5 v6 hσ5 => zpc_some hσ5)))))
theorem fp_fX10_scaled_44 {σ0 : zSt} {σ : zSt} {s0 : Int32} (h : (zQ [30, 32, 5, 11, 12] [] [5, 46, 48] [(38, 0, 1), (38, 3, 6)]) σ0 σ) : zpc (fX10_scaled_44 σ s0) (fun r => (zQ [30, 32, 5, 11, 12] [] [5, 46, 48] [(38, 0, 1), (38, 3, 6)]) σ0 (r.1)) := by
  unfold fX10_scaled_44
  exact zpc_some h
theorem fp_fX10_scaled {σ0 : zSt} {σ : zSt} {x1 : Int32} (h : (zQ [30, 32, 5, 11, 12] [] [5, 46, 48] [(38, 0, 1), (38, 3, 6)]) σ0 σ) : zpc (fX10_scaled σ x1) (fun r => (zQ [30, 32, 5, 11, 12] [] [5, 46, 48] [(38, 0, 1), (38, 3, 6)]) σ0 (r.1)) := by
  unfold fX10_scaled
  exact zpc_if (fun _ => zpc_some h) (fun _ => zpc_ck (zpc_bv (fun v1 _ => zpc_if (fun _ => fp_fX10_scaled_44 h) (fun _ => fp_fX10_scaled_44 h))))
theorem fp_fX10_tremble_30 {σ0 : zSt} {σ : zSt} {s0 : Int32} (h : (zQ [30, 32, 5, 11, 12] [] [5, 46, 48] [(38, 0, 1), (38, 3, 6)]) σ0 σ) : zpc (fX10_tremble_30 σ s0) (fun r => (zQ [30, 32, 5, 11, 12] [] [5, 46, 48] [(38, 0, 1), (38, 3, 6)]) σ0 (r.1)) := by
  unfold fX10_tremble_30
  exact zpc_ck (zpc_some h)
theorem fp_fX10_tremble {σ0 : zSt} {σ : zSt} (h : (zQ [30, 32, 5, 11, 12] [] [5, 46, 48] [(38, 0, 1), (38, 3, 6)]) σ0 σ) : zpc (fX10_tremble σ) (fun r => (zQ [30, 32, 5, 11, 12] [] [5, 46, 48] [(38, 0, 1), (38, 3, 6)]) σ0 (r.1)) := by
  unfold fX10_tremble
  exact zpc_ck (zpc_ck (zpc_ck (zpc_bv (fun v1 _ => zpc_if (fun _ => fp_fX10_tremble_30 h) (fun _ => fp_fX10_tremble_30 h)))))
theorem fp_fX10_softness_124 {σ0 : zSt} {σ : zSt} {x4 : Int32} (h : (zQ [30, 32, 5, 11, 12] [] [5, 46, 48] [(38, 0, 1), (38, 3, 6)]) σ0 σ) : zpc (fX10_softness_124 σ x4) (fun r => (zQ [30, 32, 5, 11, 12] [] [5, 46, 48] [(38, 0, 1), (38, 3, 6)]) σ0 (r.1)) := by
  unfold fX10_softness_124
  exact zpc_some h
theorem fp_fX10_softness_103 {σ0 : zSt} {σ : zSt} {x2 : Int32} {x4 : Int32} (h : (zQ [30, 32, 5, 11, 12] [] [5, 46, 48] [(38, 0, 1), (38, 3, 6)]) σ0 σ) : zpc (fX10_softness_103 σ x2 x4) (fun r => (zQ [30, 32, 5, 11, 12] [] [5, 46, 48] [(38, 0, 1), (38, 3, 6)]) σ0 (r.1)) := by
  unfold fX10_softness_103
  exact zpc_bi (fp_fX10_part h) (fun σ1 v2 hσ1 => zpc_if (fun _ => fp_fX10_softness_124 hσ1) (fun _ => zpc_bi (fp_fX10_tremble hσ1) (fun σ3 v4 hσ3 => zpc_bv (fun v5 _ => fp_fX10_softness_124 hσ3))))
theorem fp_fX10_softness_88 {σ0 : zSt} {σ : zSt} {x2 : Int32} {x4 : Int32} (h : (zQ [30, 32, 5, 11, 12] [] [5, 46, 48] [(38, 0, 1), (38, 3, 6)]) σ0 σ) : zpc (fX10_softness_88 σ x2 x4) (fun r => (zQ [30, 32, 5, 11, 12] [] [5, 46, 48] [(38, 0, 1), (38, 3, 6)]) σ0 (r.1)) := by
  unfold fX10_softness_88
  exact zpc_bi (fp_fX10_part h) (fun σ6 v7 hσ6 => zpc_bv (fun v8 _ => fp_fX10_softness_103 hσ6))
theorem fp_fX10_softness {σ0 : zSt} {σ : zSt} {x1 : Int32} {x2 : Int32} (h : (zQ [30, 32, 5, 11, 12] [] [5, 46, 48] [(38, 0, 1), (38, 3, 6)]) σ0 σ) : zpc (fX10_softness σ x1 x2) (fun r => (zQ [30, 32, 5, 11, 12] [] [5, 46, 48] [(38, 0, 1), (38, 3, 6)]) σ0 (r.1)) := by
  unfold fX10_softness
  exact zpc_ck (zpc_bv (fun v9 _ => zpc_ck (zpc_bi (fp_fX10_part h) (fun σ10 v11 hσ10 => zpc_bi (fp_fX10_scaled hσ10) (fun σ12 v13 hσ12 => zpc_bv (fun v14 _ => zpc_if (fun _ => zpc_bv (fun v16 _ => fp_fX10_softness_103 hσ12)) (fun _ => zpc_if (fun _ => fp_fX10_softness_88 hσ12) (fun _ => zpc_if (fun _ => fp_fX10_softness_88 hσ12) (fun _ => zpc_bv (fun v15 _ => fp_fX10_softness_103 hσ12))))))))))
theorem fp_fX10_waveAt_104 {σ0 : zSt} {σ : zSt} {s0 : Int32} (h : (zQ [30, 32, 5, 11, 12] [] [5, 46, 48] [(38, 0, 1), (38, 3, 6)]) σ0 σ) : zpc (fX10_waveAt_104 σ s0) (fun r => (zQ [30, 32, 5, 11, 12] [] [5, 46, 48] [(38, 0, 1), (38, 3, 6)]) σ0 (r.1)) := by
  unfold fX10_waveAt_104
  exact zpc_some h
theorem fp_fX10_waveAt_49 {σ0 : zSt} {σ : zSt} {x1 : Int32} {x3 : Int32} {s0 : Int32} (h : (zQ [30, 32, 5, 11, 12] [] [5, 46, 48] [(38, 0, 1), (38, 3, 6)]) σ0 σ) : zpc (fX10_waveAt_49 σ x1 x3 s0) (fun r => (zQ [30, 32, 5, 11, 12] [] [5, 46, 48] [(38, 0, 1), (38, 3, 6)]) σ0 (r.1)) := by
  unfold fX10_waveAt_49
  exact zpc_ck (zpc_bv (fun v1 _ => zpc_ck (zpc_bv (fun v2 _ => zpc_if (fun _ => fp_fX10_waveAt_104 h) (fun _ => fp_fX10_waveAt_104 h)))))
theorem fp_fX10_waveAt_24 {σ0 : zSt} {σ : zSt} {x0 : Int32} {x1 : Int32} {x3 : Int32} (h : (zQ [30, 32, 5, 11, 12] [] [5, 46, 48] [(38, 0, 1), (38, 3, 6)]) σ0 σ) : zpc (fX10_waveAt_24 σ x0 x1 x3) (fun r => (zQ [30, 32, 5, 11, 12] [] [5, 46, 48] [(38, 0, 1), (38, 3, 6)]) σ0 (r.1)) := by
  unfold fX10_waveAt_24
  exact zpc_if (fun _ => fp_fX10_waveAt_49 h) (fun _ => fp_fX10_waveAt_49 h)
theorem fp_fX10_waveAt_13 {σ0 : zSt} {σ : zSt} {x0 : Int32} {x1 : Int32} {x2 : Int32} {s0 : Int32} (h : (zQ [30, 32, 5, 11, 12] [] [5, 46, 48] [(38, 0, 1), (38, 3, 6)]) σ0 σ) : zpc (fX10_waveAt_13 σ x0 x1 x2 s0) (fun r => (zQ [30, 32, 5, 11, 12] [] [5, 46, 48] [(38, 0, 1), (38, 3, 6)]) σ0 (r.1)) := by
  unfold fX10_waveAt_13
  exact zpc_if (fun _ => fp_fX10_waveAt_24 h) (fun _ => zpc_if (fun _ => fp_fX10_waveAt_24 h) (fun _ => zpc_some h))
theorem fp_fX10_waveAt {σ0 : zSt} {σ : zSt} {x0 : Int32} {x1 : Int32} {x2 : Int32} (h : (zQ [30, 32, 5, 11, 12] [] [5, 46, 48] [(38, 0, 1), (38, 3, 6)]) σ0 σ) : zpc (fX10_waveAt σ x0 x1 x2) (fun r => (zQ [30, 32, 5, 11, 12] [] [5, 46, 48] [(38, 0, 1), (38, 3, 6)]) σ0 (r.1)) := by
  unfold fX10_waveAt
  exact zpc_if (fun _ => fp_fX10_waveAt_13 h) (fun _ => fp_fX10_waveAt_13 h)
theorem fp_fX10_moveOut_55 {σ0 : zSt} {σ : zSt} {x1 : Int32} {x3 : Int32} (h : (zQ [30, 32, 5, 11, 12] [] [5, 46, 48] [(38, 0, 1), (38, 3, 6)]) σ0 σ) : zpc (fX10_moveOut_55 σ x1 x3) (fun r => (zQ [30, 32, 5, 11, 12] [] [5, 46, 48] [(38, 0, 1), (38, 3, 6)]) σ0 (r)) := by
  unfold fX10_moveOut_55
  exact zpc_ck (zpc_ck (zpc_bs (zQ.wi h rfl) (fun σ1 hσ1 => zpc_ck (zpc_bs (zQ.wi hσ1 rfl) (fun σ2 hσ2 => zpc_some hσ2)))))
theorem fp_fX10_moveOut_51 {σ0 : zSt} {σ : zSt} {x1 : Int32} {s0 : Int32} {s1 : Int32} {s2 : Int32} (h : (zQ [30, 32, 5, 11, 12] [] [5, 46, 48] [(38, 0, 1), (38, 3, 6)]) σ0 σ) : zpc (fX10_moveOut_51 σ x1 s0 s1 s2) (fun r => (zQ [30, 32, 5, 11, 12] [] [5, 46, 48] [(38, 0, 1), (38, 3, 6)]) σ0 (r)) := by
  unfold fX10_moveOut_51
  exact zpc_bi (fp_fX10_waveAt h) (fun σ3 v4 hσ3 => fp_fX10_moveOut_55 hσ3)
theorem fp_fX10_moveOut {σ0 : zSt} {σ : zSt} {x1 : Int32} {x2 : Int32} (h : (zQ [30, 32, 5, 11, 12] [] [5, 46, 48] [(38, 0, 1), (38, 3, 6)]) σ0 σ) : zpc (fX10_moveOut σ x1 x2) (fun r => (zQ [30, 32, 5, 11, 12] [] [5, 46, 48] [(38, 0, 1), (38, 3, 6)]) σ0 (r)) := by
  unfold fX10_moveOut
  exact zpc_ck (zpc_if (fun _ => fp_fX10_moveOut_55 h) (fun _ => zpc_bi (fp_fX10_turnedPhase h) (fun σ5 v6 hσ5 => zpc_bi (fp_fX10_softness hσ5) (fun σ7 v8 hσ7 => zpc_bi (fp_fX10_part hσ7) (fun σ9 v10 hσ9 => zpc_if (fun _ => fp_fX10_moveOut_51 hσ9) (fun _ => fp_fX10_moveOut_51 hσ9))))))
theorem fp_fX10_moveOperator_99 {σ0 : zSt} {σ : zSt} {x1 : Int32} {x2 : Int32} (h : (zQ [30, 32, 5, 11, 12] [] [5, 46, 48] [(38, 0, 1), (38, 3, 6)]) σ0 σ) : zpc (fX10_moveOperator_99 σ x1 x2) (fun r => (zQ [30, 32, 5, 11, 12] [] [5, 46, 48] [(38, 0, 1), (38, 3, 6)]) σ0 (r)) := by
  unfold fX10_moveOperator_99
  exact zpc_bi (fp_fX10_part h) (fun σ1 v2 hσ1 => zpc_bu (fp_fX10_movePhase hσ1) (fun σ3 hσ3 => zpc_bu (fp_fX10_moveOut hσ3) (fun σ4 hσ4 => zpc_some hσ4)))
theorem fp_fX10_moveOperator_78 {σ0 : zSt} {σ : zSt} {x1 : Int32} {x2 : Int32} (h : (zQ [30, 32, 5, 11, 12] [] [5, 46, 48] [(38, 0, 1), (38, 3, 6)]) σ0 σ) : zpc (fX10_moveOperator_78 σ x1 x2) (fun r => (zQ [30, 32, 5, 11, 12] [] [5, 46, 48] [(38, 0, 1), (38, 3, 6)]) σ0 (r)) := by
  unfold fX10_moveOperator_78
  exact zpc_bu (fp_fX10_moveLevel h) (fun σ5 hσ5 => zpc_bi (fp_fX10_part hσ5) (fun σ6 v7 hσ6 => zpc_bu (fp_fX10_moveState hσ6) (fun σ8 hσ8 => fp_fX10_moveOperator_99 hσ8)))
theorem fp_fX10_moveOperator_53 {σ0 : zSt} {σ : zSt} {x1 : Int32} {x2 : Int32} (h : (zQ [30, 32, 5, 11, 12] [] [5, 46, 48] [(38, 0, 1), (38, 3, 6)]) σ0 σ) : zpc (fX10_moveOperator_53 σ x1 x2) (fun r => (zQ [30, 32, 5, 11, 12] [] [5, 46, 48] [(38, 0, 1), (38, 3, 6)]) σ0 (r)) := by
  unfold fX10_moveOperator_53
  exact zpc_ck (zpc_if (fun _ => zpc_ck (zpc_if (fun _ => fp_fX10_moveOperator_99 h) (fun _ => fp_fX10_moveOperator_78 h))) (fun _ => fp_fX10_moveOperator_78 h))
theorem fp_fX10_moveOperator_52 {σ0 : zSt} {σ : zSt} {x1 : Int32} {x2 : Int32} {s0 : Int32} {s1 : Int32} (h : (zQ [30, 32, 5, 11, 12] [] [5, 46, 48] [(38, 0, 1), (38, 3, 6)]) σ0 σ) : zpc (fX10_moveOperator_52 σ x1 x2 s0 s1) (fun r => (zQ [30, 32, 5, 11, 12] [] [5, 46, 48] [(38, 0, 1), (38, 3, 6)]) σ0 (r)) := by
  unfold fX10_moveOperator_52
  exact zpc_ck (zpc_bs (zQ.wi h rfl) (fun σ9 hσ9 => fp_fX10_moveOperator_53 hσ9))
theorem fp_fX10_moveOperator_13 {σ0 : zSt} {σ : zSt} {x1 : Int32} {x2 : Int32} {s0 : Int32} (h : (zQ [30, 32, 5, 11, 12] [] [5, 46, 48] [(38, 0, 1), (38, 3, 6)]) σ0 σ) : zpc (fX10_moveOperator_13 σ x1 x2 s0) (fun r => (zQ [30, 32, 5, 11, 12] [] [5, 46, 48] [(38, 0, 1), (38, 3, 6)]) σ0 (r)) := by
  unfold fX10_moveOperator_13
  exact zpc_ck (zpc_if (fun _ => fp_fX10_moveOperator_53 h) (fun _ => zpc_ck (zpc_bs (zQ.wi h rfl) (fun σ10 hσ10 => zpc_if (fun _ => fp_fX10_moveOperator_52 hσ10) (fun _ => fp_fX10_moveOperator_52 hσ10)))))
theorem fp_fX10_moveOperator {σ0 : zSt} {σ : zSt} {x1 : Int32} {x2 : Int32} (h : (zQ [30, 32, 5, 11, 12] [] [5, 46, 48] [(38, 0, 1), (38, 3, 6)]) σ0 σ) : zpc (fX10_moveOperator σ x1 x2) (fun r => (zQ [30, 32, 5, 11, 12] [] [5, 46, 48] [(38, 0, 1), (38, 3, 6)]) σ0 (r)) := by
  unfold fX10_moveOperator
  exact zpc_bi (fp_fX10_isOn h) (fun σ11 v12 hσ11 => zpc_if (fun _ => fp_fX10_moveOperator_13 hσ11) (fun _ => fp_fX10_moveOperator_13 hσ11))
theorem fp_fX10_makeNext_136 {σ0 : zSt} {k41 : zSt → Int32 → Int32 → Option (zSt)} (hk41 : ∀ (y0 : zSt) (y1 : Int32) (y2 : Int32), (zQ [30, 32, 5, 11, 12] [] [5, 46, 48] [(38, 0, 1), (38, 3, 6)]) σ0 y0 → zpc (k41 y0 y1 y2) (fun r => (zQ [30, 32, 5, 11, 12] [] [5, 46, 48] [(38, 0, 1), (38, 3, 6)]) σ0 (r))) {σ : zSt} {x2 : Int32} {s0 : Int32} {s1 : Int32} {s2 : Int32} (h : (zQ [30, 32, 5, 11, 12] [] [5, 46, 48] [(38, 0, 1), (38, 3, 6)]) σ0 σ) : zpc (fX10_makeNext_136 k41 σ x2 s0 s1 s2) (fun r => (zQ [30, 32, 5, 11, 12] [] [5, 46, 48] [(38, 0, 1), (38, 3, 6)]) σ0 (r)) := by
  unfold fX10_makeNext_136
  exact zpc_bv (fun v1 _ => zpc_bv (fun v2 _ => hk41 _ _ _ h))
theorem fp_fX10_makeNext_135 {σ0 : zSt} {k41 : zSt → Int32 → Int32 → Option (zSt)} (hk41 : ∀ (y0 : zSt) (y1 : Int32) (y2 : Int32), (zQ [30, 32, 5, 11, 12] [] [5, 46, 48] [(38, 0, 1), (38, 3, 6)]) σ0 y0 → zpc (k41 y0 y1 y2) (fun r => (zQ [30, 32, 5, 11, 12] [] [5, 46, 48] [(38, 0, 1), (38, 3, 6)]) σ0 (r))) {σ : zSt} {x2 : Int32} {s0 : Int32} {s1 : Int32} (h : (zQ [30, 32, 5, 11, 12] [] [5, 46, 48] [(38, 0, 1), (38, 3, 6)]) σ0 σ) : zpc (fX10_makeNext_135 k41 σ x2 s0 s1) (fun r => (zQ [30, 32, 5, 11, 12] [] [5, 46, 48] [(38, 0, 1), (38, 3, 6)]) σ0 (r)) := by
  unfold fX10_makeNext_135
  exact fp_fX10_makeNext_136 hk41 h
theorem fp_fX10_makeNext_101 {σ0 : zSt} {k41 : zSt → Int32 → Int32 → Option (zSt)} (hk41 : ∀ (y0 : zSt) (y1 : Int32) (y2 : Int32), (zQ [30, 32, 5, 11, 12] [] [5, 46, 48] [(38, 0, 1), (38, 3, 6)]) σ0 y0 → zpc (k41 y0 y1 y2) (fun r => (zQ [30, 32, 5, 11, 12] [] [5, 46, 48] [(38, 0, 1), (38, 3, 6)]) σ0 (r))) {σ : zSt} {x1 : Int32} {x2 : Int32} {x3 : Int32} {s0 : Int32} (h : (zQ [30, 32, 5, 11, 12] [] [5, 46, 48] [(38, 0, 1), (38, 3, 6)]) σ0 σ) : zpc (fX10_makeNext_101 k41 σ x1 x2 x3 s0) (fun r => (zQ [30, 32, 5, 11, 12] [] [5, 46, 48] [(38, 0, 1), (38, 3, 6)]) σ0 (r)) := by
  unfold fX10_makeNext_101
  exact zpc_ck (zpc_if (fun _ => fp_fX10_makeNext_135 hk41 h) (fun _ => zpc_if (fun _ => fp_fX10_makeNext_135 hk41 h) (fun _ => fp_fX10_makeNext_136 hk41 h)))
theorem fp_fX10_makeNext_100 {σ0 : zSt} {k41 : zSt → Int32 → Int32 → Option (zSt)} (hk41 : ∀ (y0 : zSt) (y1 : Int32) (y2 : Int32), (zQ [30, 32, 5, 11, 12] [] [5, 46, 48] [(38, 0, 1), (38, 3, 6)]) σ0 y0 → zpc (k41 y0 y1 y2) (fun r => (zQ [30, 32, 5, 11, 12] [] [5, 46, 48] [(38, 0, 1), (38, 3, 6)]) σ0 (r))) {σ : zSt} {x1 : Int32} {x2 : Int32} {x3 : Int32} (h : (zQ [30, 32, 5, 11, 12] [] [5, 46, 48] [(38, 0, 1), (38, 3, 6)]) σ0 σ) : zpc (fX10_makeNext_100 k41 σ x1 x2 x3) (fun r => (zQ [30, 32, 5, 11, 12] [] [5, 46, 48] [(38, 0, 1), (38, 3, 6)]) σ0 (r)) := by
  unfold fX10_makeNext_100
  exact fp_fX10_makeNext_101 hk41 h
theorem fp_fX10_makeNext_174 {σ0 : zSt} {σ : zSt} {x1 : Int32} {s0 : Int32} {s1 : Int32} (h : (zQ [30, 32, 5, 11, 12] [] [5, 46, 48] [(38, 0, 1), (38, 3, 6)]) σ0 σ) : zpc (fX10_makeNext_174 σ x1 s0 s1) (fun r => (zQ [30, 32, 5, 11, 12] [] [5, 46, 48] [(38, 0, 1), (38, 3, 6)]) σ0 (r)) := by
  unfold fX10_makeNext_174
  exact zpc_ck (zpc_bs (zQ.wi h rfl) (fun σ3 hσ3 => zpc_ck (zpc_bs (zQ.wi hσ3 rfl) (fun σ4 hσ4 => zpc_some hσ4))))
theorem fp_fX10_makeNext_41_body {σ0 : zSt} {k41 : zSt → Int32 → Int32 → Option (zSt)} (hk41 : ∀ (y0 : zSt) (y1 : Int32) (y2 : Int32), (zQ [30, 32, 5, 11, 12] [] [5, 46, 48] [(38, 0, 1), (38, 3, 6)]) σ0 y0 → zpc (k41 y0 y1 y2) (fun r => (zQ [30, 32, 5, 11, 12] [] [5, 46, 48] [(38, 0, 1), (38, 3, 6)]) σ0 (r))) {σ : zSt} {x1 : Int32} {x2 : Int32} (h : (zQ [30, 32, 5, 11, 12] [] [5, 46, 48] [(38, 0, 1), (38, 3, 6)]) σ0 σ) : zpc (fX10_makeNext_41_body k41 σ x1 x2) (fun r => (zQ [30, 32, 5, 11, 12] [] [5, 46, 48] [(38, 0, 1), (38, 3, 6)]) σ0 (r)) := by
  unfold fX10_makeNext_41_body
  exact zpc_if (fun _ => zpc_ck (zpc_bv (fun v5 _ => zpc_if (fun _ => fp_fX10_makeNext_174 h) (fun _ => fp_fX10_makeNext_174 h)))) (fun _ => zpc_bu (fp_fX10_takeChannel h) (fun σ6 hσ6 => zpc_bv (fun v7 _ => zpc_bu (fp_fX10_moveOperator hσ6) (fun σ8 hσ8 => zpc_bu (fp_fX10_moveOperator hσ8) (fun σ9 hσ9 => zpc_if (fun _ => fp_fX10_makeNext_100 hk41 hσ9) (fun _ => zpc_if (fun _ => fp_fX10_makeNext_100 hk41 hσ9) (fun _ => zpc_ck (fp_fX10_makeNext_101 hk41 hσ9))))))))
theorem fp_fX10_makeNext_41 {σ0 : zSt} : ∀ (n : Nat) (y0 : zSt) (y1 : Int32) (y2 : Int32), (zQ [30, 32, 5, 11, 12] [] [5, 46, 48] [(38, 0, 1), (38, 3, 6)]) σ0 y0 → zpc (fX10_makeNext_41 n y0 y1 y2) (fun r => (zQ [30, 32, 5, 11, 12] [] [5, 46, 48] [(38, 0, 1), (38, 3, 6)]) σ0 (r)) := by
  intro n
  induction n with
  | zero => intro y0 y1 y2 h; exact zpc_none
  | succ n ih => intro y0 y1 y2 h; exact fp_fX10_makeNext_41_body ih h
theorem fp_fX10_makeNext_30 {σ0 : zSt} {σ : zSt} {s0 : Int32} (h : (zQ [30, 32, 5, 11, 12] [] [5, 46, 48] [(38, 0, 1), (38, 3, 6)]) σ0 σ) : zpc (fX10_makeNext_30 σ s0) (fun r => (zQ [30, 32, 5, 11, 12] [] [5, 46, 48] [(38, 0, 1), (38, 3, 6)]) σ0 (r)) := by
  unfold fX10_makeNext_30
  exact zpc_ck (zpc_bs (zQ.wi h rfl) (fun σ10 hσ10 => zpc_bu (fp_fX10_takeOwnPatch hσ10) (fun σ11 hσ11 => fp_fX10_makeNext_41 _ _ _ _ hσ11)))
theorem fp_fX10_makeNext {σ0 : zSt} {σ : zSt} (h : (zQ [30, 32, 5, 11, 12] [] [5, 46, 48] [(38, 0, 1), (38, 3, 6)]) σ0 σ) : zpc (fX10_makeNext σ) (fun r => (zQ [30, 32, 5, 11, 12] [] [5, 46, 48] [(38, 0, 1), (38, 3, 6)]) σ0 (r)) := by
  unfold fX10_makeNext
  exact zpc_ck (zpc_ck (zpc_bs (zQ.wi h rfl) (fun σ12 hσ12 => zpc_ck (zpc_if (fun _ => fp_fX10_makeNext_30 hσ12) (fun _ => fp_fX10_makeNext_30 hσ12)))))
theorem fp_fX10_heard_24 {σ0 : zSt} {σ : zSt} {s0 : Int32} (h : (zQ [30, 32, 5, 11, 12] [] [5, 46, 48] [(38, 0, 1), (38, 3, 6)]) σ0 σ) : zpc (fX10_heard_24 σ s0) (fun r => (zQ [30, 32, 5, 11, 12] [] [5, 46, 48] [(38, 0, 1), (38, 3, 6)]) σ0 (r.1)) := by
  unfold fX10_heard_24
  exact zpc_some h
theorem fp_fX10_heard {σ0 : zSt} {σ : zSt} (h : (zQ [30, 32, 5, 11, 12] [] [5, 46, 48] [(38, 0, 1), (38, 3, 6)]) σ0 σ) : zpc (fX10_heard σ) (fun r => (zQ [30, 32, 5, 11, 12] [] [5, 46, 48] [(38, 0, 1), (38, 3, 6)]) σ0 (r.1)) := by
  unfold fX10_heard
  exact zpc_ck (zpc_if (fun _ => zpc_ck (fp_fX10_heard_24 h)) (fun _ => fp_fX10_heard_24 h))
theorem fp_fX6_add_k12_56 {σ0 : zSt} {σ : zSt} (h : (zQ [30, 32, 5, 11, 12] [] [5, 46, 48] [(38, 0, 1), (38, 3, 6)]) σ0 σ) : zpc (fX6_add_k12_56 σ) (fun r => (zQ [30, 32, 5, 11, 12] [] [5, 46, 48] [(38, 0, 1), (38, 3, 6)]) σ0 (r)) := by
  unfold fX6_add_k12_56
  exact zpc_some h
theorem fp_fX6_add_k12 {σ0 : zSt} {σ : zSt} {x1 : Int64} (h : (zQ [30, 32, 5, 11, 12] [] [5, 46, 48] [(38, 0, 1), (38, 3, 6)]) σ0 σ) : zpc (fX6_add_k12 σ x1) (fun r => (zQ [30, 32, 5, 11, 12] [] [5, 46, 48] [(38, 0, 1), (38, 3, 6)]) σ0 (r)) := by
  unfold fX6_add_k12
  exact zpc_ck (zpc_bs (zQ.wl h rfl) (fun σ1 hσ1 => zpc_if (fun _ => zpc_bs (zQ.wi hσ1 rfl) (fun σ2 hσ2 => fp_fX6_add_k12_56 hσ2)) (fun _ => zpc_bs (zQ.wi hσ1 rfl) (fun σ3 hσ3 => fp_fX6_add_k12_56 hσ3))))
theorem fp_fX0_addMix {σ0 : zSt} {σ : zSt} (h : (zQ [30, 32, 5, 11, 12] [] [5, 46, 48] [(38, 0, 1), (38, 3, 6)]) σ0 σ) : zpc (fX0_addMix σ) (fun r => (zQ [30, 32, 5, 11, 12] [] [5, 46, 48] [(38, 0, 1), (38, 3, 6)]) σ0 (r)) := by
  unfold fX0_addMix
  exact zpc_ck (zpc_bv (fun v1 _ => zpc_ck (zpc_ck (zpc_bi (fp_fX10_heard h) (fun σ2 v3 hσ2 => zpc_bv (fun v4 _ => zpc_ck (zpc_ck (zpc_bi (fp_fX10_heard hσ2) (fun σ5 v6 hσ5 => zpc_bv (fun v7 _ => zpc_bu (fp_fX6_add_k12 hσ5) (fun σ8 hσ8 => zpc_ck (zpc_bs (zQ.wl hσ8 rfl) (fun σ9 hσ9 => zpc_ck (zpc_bs (zQ.wl hσ9 rfl) (fun σ10 hσ10 => zpc_ck (zpc_bs (zQ.wl hσ10 rfl) (fun σ11 hσ11 => zpc_some hσ11)))))))))))))))))
theorem fp_fX0_pass_105_body {σ0 : zSt} {k105 : zSt → Int64 → Int64 → Option (zSt)} (hk105 : ∀ (y0 : zSt) (y1 : Int64) (y2 : Int64), (zQ [30, 32, 5, 11, 12] [] [5, 46, 48] [(38, 0, 1), (38, 3, 6)]) σ0 y0 → zpc (k105 y0 y1 y2) (fun r => (zQ [30, 32, 5, 11, 12] [] [5, 46, 48] [(38, 0, 1), (38, 3, 6)]) σ0 (r))) {σ : zSt} {x4 : Int64} {x6 : Int64} (h : (zQ [30, 32, 5, 11, 12] [] [5, 46, 48] [(38, 0, 1), (38, 3, 6)]) σ0 σ) : zpc (fX0_pass_105_body k105 σ x4 x6) (fun r => (zQ [30, 32, 5, 11, 12] [] [5, 46, 48] [(38, 0, 1), (38, 3, 6)]) σ0 (r)) := by
  unfold fX0_pass_105_body
  exact zpc_ck (zpc_if (fun _ => zpc_some h) (fun _ => zpc_bu (fp_fX0_addMix h) (fun σ1 hσ1 => zpc_bv (fun v2 _ => hk105 _ _ _ hσ1))))
theorem fp_fX0_pass_105 {σ0 : zSt} : ∀ (n : Nat) (y0 : zSt) (y1 : Int64) (y2 : Int64), (zQ [30, 32, 5, 11, 12] [] [5, 46, 48] [(38, 0, 1), (38, 3, 6)]) σ0 y0 → zpc (fX0_pass_105 n y0 y1 y2) (fun r => (zQ [30, 32, 5, 11, 12] [] [5, 46, 48] [(38, 0, 1), (38, 3, 6)]) σ0 (r)) := by
  intro n
  induction n with
  | zero => intro y0 y1 y2 h; exact zpc_none
  | succ n ih => intro y0 y1 y2 h; exact fp_fX0_pass_105_body ih h
theorem fp_fX0_pass_70_body {σ0 : zSt} {k70 : zSt → Int64 → Int64 → Int64 → Option (zSt)} (hk70 : ∀ (y0 : zSt) (y1 : Int64) (y2 : Int64) (y3 : Int64), (zQ [30, 32, 5, 11, 12] [] [5, 46, 48] [(38, 0, 1), (38, 3, 6)]) σ0 y0 → zpc (k70 y0 y1 y2 y3) (fun r => (zQ [30, 32, 5, 11, 12] [] [5, 46, 48] [(38, 0, 1), (38, 3, 6)]) σ0 (r))) {σ : zSt} {x2 : Int64} {x4 : Int64} {x6 : Int64} (h : (zQ [30, 32, 5, 11, 12] [] [5, 46, 48] [(38, 0, 1), (38, 3, 6)]) σ0 σ) : zpc (fX0_pass_70_body k70 σ x2 x4 x6) (fun r => (zQ [30, 32, 5, 11, 12] [] [5, 46, 48] [(38, 0, 1), (38, 3, 6)]) σ0 (r)) := by
  unfold fX0_pass_70_body
  exact zpc_ck (zpc_if (fun _ => zpc_ck (zpc_bv (fun v3 _ => fp_fX0_pass_105 _ _ _ _ h))) (fun _ => zpc_bu (fp_fX10_makeNext h) (fun σ4 hσ4 => zpc_bv (fun v5 _ => hk70 _ _ _ _ hσ4))))
theorem fp_fX0_pass_70 {σ0 : zSt} : ∀ (n : Nat) (y0 : zSt) (y1 : Int64) (y2 : Int64) (y3 : Int64), (zQ [30, 32, 5, 11, 12] [] [5, 46, 48] [(38, 0, 1), (38, 3, 6)]) σ0 y0 → zpc (fX0_pass_70 n y0 y1 y2 y3) (fun r => (zQ [30, 32, 5, 11, 12] [] [5, 46, 48] [(38, 0, 1), (38, 3, 6)]) σ0 (r)) := by
  intro n
  induction n with
  | zero => intro y0 y1 y2 y3 h; exact zpc_none
  | succ n ih => intro y0 y1 y2 y3 h; exact fp_fX0_pass_70_body ih h
theorem fp_fX0_pass_38_body {σ0 : zSt} {k38 : zSt → Int64 → Int64 → Int64 → Option (zSt)} (hk38 : ∀ (y0 : zSt) (y1 : Int64) (y2 : Int64) (y3 : Int64), (zQ [30, 32, 5, 11, 12] [] [5, 46, 48] [(38, 0, 1), (38, 3, 6)]) σ0 y0 → zpc (k38 y0 y1 y2 y3) (fun r => (zQ [30, 32, 5, 11, 12] [] [5, 46, 48] [(38, 0, 1), (38, 3, 6)]) σ0 (r))) {σ : zSt} {x2 : Int64} {x4 : Int64} {x6 : Int64} (h : (zQ [30, 32, 5, 11, 12] [] [5, 46, 48] [(38, 0, 1), (38, 3, 6)]) σ0 σ) : zpc (fX0_pass_38_body k38 σ x2 x4 x6) (fun r => (zQ [30, 32, 5, 11, 12] [] [5, 46, 48] [(38, 0, 1), (38, 3, 6)]) σ0 (r)) := by
  unfold fX0_pass_38_body
  exact zpc_ck (zpc_if (fun _ => zpc_ck (zpc_bv (fun v6 _ => fp_fX0_pass_70 _ _ _ _ _ h))) (fun _ => zpc_bu (fp_fX0_addSample h) (fun σ7 hσ7 => zpc_bv (fun v8 _ => hk38 _ _ _ _ hσ7))))
theorem fp_fX0_pass_38 {σ0 : zSt} : ∀ (n : Nat) (y0 : zSt) (y1 : Int64) (y2 : Int64) (y3 : Int64), (zQ [30, 32, 5, 11, 12] [] [5, 46, 48] [(38, 0, 1), (38, 3, 6)]) σ0 y0 → zpc (fX0_pass_38 n y0 y1 y2 y3) (fun r => (zQ [30, 32, 5, 11, 12] [] [5, 46, 48] [(38, 0, 1), (38, 3, 6)]) σ0 (r)) := by
  intro n
  induction n with
  | zero => intro y0 y1 y2 y3 h; exact zpc_none
  | succ n ih => intro y0 y1 y2 y3 h; exact fp_fX0_pass_38_body ih h
theorem fp_fX0_pass {σ0 : zSt} {σ : zSt} {x1 : Int32} (h : (zQ [30, 32, 5, 11, 12] [] [5, 46, 48] [(38, 0, 1), (38, 3, 6)]) σ0 σ) : zpc (fX0_pass σ x1) (fun r => (zQ [30, 32, 5, 11, 12] [] [5, 46, 48] [(38, 0, 1), (38, 3, 6)]) σ0 (r)) := by
  unfold fX0_pass
  exact zpc_ck (zpc_bv (fun v9 _ => zpc_bv (fun v10 _ => zpc_ck (zpc_bs (zQ.wl h rfl) (fun σ11 hσ11 => zpc_ck (zpc_ck (zpc_bs (zQ.wl hσ11 rfl) (fun σ12 hσ12 => zpc_ck (zpc_bv (fun v13 _ => fp_fX0_pass_38 _ _ _ _ _ hσ12))))))))))
end ZJN14
section ZJN15
theorem fD_fX12_bit {σ0 : zSt} {σ : zSt} {x1 : Int32} {x2 : Int32} (h : (zQ [22, 23, 24, 25, 9] [(3, 62, 62)] [] []) σ0 σ) : zpc (fX12_bit σ x1 x2) (fun r => (zQ [22, 23, 24, 25, 9] [(3, 62, 62)] [] []) σ0 (r.1)) := by
  unfold fX12_bit
  exact zpc_ck (zpc_some h)
theorem fD_fX12_mode_57 {σ0 : zSt} {σ : zSt} {s0 : Int32} (h : (zQ [22, 23, 24, 25, 9] [(3, 62, 62)] [] []) σ0 σ) : zpc (fX12_mode_57 σ s0) (fun r => (zQ [22, 23, 24, 25, 9] [(3, 62, 62)] [] []) σ0 (r.1)) := by
  unfold fX12_mode_57
  exact zpc_some h
theorem fD_fX12_mode {σ0 : zSt} {σ : zSt} (h : (zQ [22, 23, 24, 25, 9] [(3, 62, 62)] [] []) σ0 σ) : zpc (fX12_mode σ) (fun r => (zQ [22, 23, 24, 25, 9] [(3, 62, 62)] [] []) σ0 (r.1)) := by
  unfold fX12_mode
  exact zpc_bi (fD_fX12_bit h) (fun σ1 v2 hσ1 => zpc_if (fun _ => fD_fX12_mode_57 hσ1) (fun _ => zpc_bi (fD_fX12_bit hσ1) (fun σ3 v4 hσ3 => zpc_if (fun _ => fD_fX12_mode_57 hσ3) (fun _ => zpc_bi (fD_fX12_bit hσ3) (fun σ5 v6 hσ5 => zpc_if (fun _ => fD_fX12_mode_57 hσ5) (fun _ => zpc_bi (fD_fX12_bit hσ5) (fun σ7 v8 hσ7 => zpc_if (fun _ => fD_fX12_mode_57 hσ7) (fun _ => fD_fX12_mode_57 hσ7))))))))
theorem fD_fX12_height_32 {σ0 : zSt} {σ : zSt} (h : (zQ [22, 23, 24, 25, 9] [(3, 62, 62)] [] []) σ0 σ) : zpc (fX12_height_32 σ) (fun r => (zQ [22, 23, 24, 25, 9] [(3, 62, 62)] [] []) σ0 (r.1)) := by
  unfold fX12_height_32
  exact zpc_some h
theorem fD_fX12_height_55 {σ0 : zSt} {σ : zSt} {s0 : Int32} (h : (zQ [22, 23, 24, 25, 9] [(3, 62, 62)] [] []) σ0 σ) : zpc (fX12_height_55 σ s0) (fun r => (zQ [22, 23, 24, 25, 9] [(3, 62, 62)] [] []) σ0 (r.1)) := by
  unfold fX12_height_55
  exact zpc_some h
theorem fD_fX12_height {σ0 : zSt} {σ : zSt} (h : (zQ [22, 23, 24, 25, 9] [(3, 62, 62)] [] []) σ0 σ) : zpc (fX12_height σ) (fun r => (zQ [22, 23, 24, 25, 9] [(3, 62, 62)] [] []) σ0 (r.1)) := by
  unfold fX12_height
  exact zpc_bi (fD_fX12_mode h) (fun σ1 v2 hσ1 => zpc_if (fun _ => zpc_bi (fD_fX12_bit hσ1) (fun σ3 v4 hσ3 => zpc_if (fun _ => fD_fX12_height_32 hσ3) (fun _ => zpc_bi (fD_fX12_bit hσ3) (fun σ5 v6 hσ5 => zpc_bi (fD_fX12_bit hσ5) (fun σ7 v8 hσ7 => zpc_if (fun _ => fD_fX12_height_32 hσ7) (fun _ => zpc_bi (fD_fX12_bit hσ7) (fun σ9 v10 hσ9 => zpc_if (fun _ => fD_fX12_height_55 hσ9) (fun _ => fD_fX12_height_55 hσ9)))))))) (fun _ => fD_fX12_height_32 hσ1))
theorem fD_fX12_video8 {σ0 : zSt} {σ : zSt} {x1 : Int32} (h : (zQ [22, 23, 24, 25, 9] [(3, 62, 62)] [] []) σ0 σ) : zpc (fX12_video8 σ x1) (fun r => (zQ [22, 23, 24, 25, 9] [(3, 62, 62)] [] []) σ0 (r.1)) := by
  unfold fX12_video8
  exact zpc_ck (zpc_some h)
theorem fD_fX12_reg {σ0 : zSt} {σ : zSt} {x1 : Int32} (h : (zQ [22, 23, 24, 25, 9] [(3, 62, 62)] [] []) σ0 σ) : zpc (fX12_reg σ x1) (fun r => (zQ [22, 23, 24, 25, 9] [(3, 62, 62)] [] []) σ0 (r.1)) := by
  unfold fX12_reg
  exact zpc_ck (zpc_some h)
theorem fD_fX12_tileDot_6_body {σ0 : zSt} {k6 : zSt → Int32 → Int32 → Int32 → Int32 → Int32 → Option (zSt × Int32)} (hk6 : ∀ (y0 : zSt) (y1 : Int32) (y2 : Int32) (y3 : Int32) (y4 : Int32) (y5 : Int32), (zQ [22, 23, 24, 25, 9] [(3, 62, 62)] [] []) σ0 y0 → zpc (k6 y0 y1 y2 y3 y4 y5) (fun r => (zQ [22, 23, 24, 25, 9] [(3, 62, 62)] [] []) σ0 (r.1))) {σ : zSt} {x1 : Int32} {x2 : Int32} {x3 : Int32} {x4 : Int32} {x5 : Int32} (h : (zQ [22, 23, 24, 25, 9] [(3, 62, 62)] [] []) σ0 σ) : zpc (fX12_tileDot_6_body k6 σ x1 x2 x3 x4 x5) (fun r => (zQ [22, 23, 24, 25, 9] [(3, 62, 62)] [] []) σ0 (r.1)) := by
  unfold fX12_tileDot_6_body
  exact zpc_if (fun _ => zpc_some h) (fun _ => zpc_bi (fD_fX12_video8 h) (fun σ1 v2 hσ1 => zpc_bv (fun v3 _ => zpc_bv (fun v4 _ => hk6 _ _ _ _ _ _ hσ1))))
theorem fD_fX12_tileDot_6 {σ0 : zSt} : ∀ (n : Nat) (y0 : zSt) (y1 : Int32) (y2 : Int32) (y3 : Int32) (y4 : Int32) (y5 : Int32), (zQ [22, 23, 24, 25, 9] [(3, 62, 62)] [] []) σ0 y0 → zpc (fX12_tileDot_6 n y0 y1 y2 y3 y4 y5) (fun r => (zQ [22, 23, 24, 25, 9] [(3, 62, 62)] [] []) σ0 (r.1)) := by
  intro n
  induction n with
  | zero => intro y0 y1 y2 y3 y4 y5 h; exact zpc_none
  | succ n ih => intro y0 y1 y2 y3 y4 y5 h; exact fD_fX12_tileDot_6_body ih h
theorem fD_fX12_tileDot {σ0 : zSt} {σ : zSt} {x1 : Int32} {x2 : Int32} {x3 : Int32} (h : (zQ [22, 23, 24, 25, 9] [(3, 62, 62)] [] []) σ0 σ) : zpc (fX12_tileDot σ x1 x2 x3) (fun r => (zQ [22, 23, 24, 25, 9] [(3, 62, 62)] [] []) σ0 (r.1)) := by
  unfold fX12_tileDot
  exact fD_fX12_tileDot_6 _ _ _ _ _ _ _ h
theorem fD_fX12_tile_302 {σ0 : zSt} {σ : zSt} {s0 : Int32} {s1 : Int32} (h : (zQ [22, 23, 24, 25, 9] [(3, 62, 62)] [] []) σ0 σ) : zpc (fX12_tile_302 σ s0 s1) (fun r => (zQ [22, 23, 24, 25, 9] [(3, 62, 62)] [] []) σ0 (r)) := by
  unfold fX12_tile_302
  exact zpc_ck (zpc_bs (zQ.wi h rfl) (fun σ1 hσ1 => zpc_some hσ1))
theorem fD_fX12_tile_301 {σ0 : zSt} {σ : zSt} {s0 : Int32} (h : (zQ [22, 23, 24, 25, 9] [(3, 62, 62)] [] []) σ0 σ) : zpc (fX12_tile_301 σ s0) (fun r => (zQ [22, 23, 24, 25, 9] [(3, 62, 62)] [] []) σ0 (r)) := by
  unfold fX12_tile_301
  exact fD_fX12_tile_302 h
theorem fD_fX12_tile_276 {σ0 : zSt} {σ : zSt} {x2 : Int32} {x9 : Int32} {x12 : Int32} {s0 : Int32} {s1 : Int32} {s2 : Int32} (h : (zQ [22, 23, 24, 25, 9] [(3, 62, 62)] [] []) σ0 σ) : zpc (fX12_tile_276 σ x2 x9 x12 s0 s1 s2) (fun r => (zQ [22, 23, 24, 25, 9] [(3, 62, 62)] [] []) σ0 (r)) := by
  unfold fX12_tile_276
  exact zpc_ck (zpc_bs (zQ.wi h rfl) (fun σ2 hσ2 => zpc_if (fun _ => fD_fX12_tile_301 hσ2) (fun _ => zpc_if (fun _ => fD_fX12_tile_301 hσ2) (fun _ => fD_fX12_tile_302 hσ2))))
theorem fD_fX12_tile_236 {σ0 : zSt} {σ : zSt} {x2 : Int32} {x9 : Int32} {x10 : Int32} {s0 : Int32} (h : (zQ [22, 23, 24, 25, 9] [(3, 62, 62)] [] []) σ0 σ) : zpc (fX12_tile_236 σ x2 x9 x10 s0) (fun r => (zQ [22, 23, 24, 25, 9] [(3, 62, 62)] [] []) σ0 (r)) := by
  unfold fX12_tile_236
  exact zpc_bi (fD_fX12_tileDot h) (fun σ3 v4 hσ3 => zpc_if (fun _ => fD_fX12_tile_276 hσ3) (fun _ => fD_fX12_tile_276 hσ3))
theorem fD_fX12_tile_209 {σ0 : zSt} {σ : zSt} {x2 : Int32} {x7 : Int32} {x9 : Int32} {s0 : Int32} (h : (zQ [22, 23, 24, 25, 9] [(3, 62, 62)] [] []) σ0 σ) : zpc (fX12_tile_209 σ x2 x7 x9 s0) (fun r => (zQ [22, 23, 24, 25, 9] [(3, 62, 62)] [] []) σ0 (r)) := by
  unfold fX12_tile_209
  exact zpc_if (fun _ => zpc_ck (fD_fX12_tile_236 h)) (fun _ => zpc_ck (fD_fX12_tile_236 h))
theorem fD_fX12_tile_141 {σ0 : zSt} {σ : zSt} {x2 : Int32} {x4 : Int32} {x6 : Int32} {s0 : Int32} (h : (zQ [22, 23, 24, 25, 9] [(3, 62, 62)] [] []) σ0 σ) : zpc (fX12_tile_141 σ x2 x4 x6 s0) (fun r => (zQ [22, 23, 24, 25, 9] [(3, 62, 62)] [] []) σ0 (r)) := by
  unfold fX12_tile_141
  exact zpc_ck (zpc_ck (zpc_bv (fun v5 _ => zpc_bi (fD_fX12_video8 h) (fun σ6 v7 hσ6 => zpc_bi (fD_fX12_video8 hσ6) (fun σ8 v9 hσ8 => zpc_bv (fun v10 _ => zpc_if (fun _ => zpc_ck (fD_fX12_tile_209 hσ8)) (fun _ => zpc_ck (fD_fX12_tile_209 hσ8))))))))
theorem fD_fX12_tile_140 {σ0 : zSt} {σ : zSt} {x2 : Int32} {x4 : Int32} {x6 : Int32} {s0 : Int32} {s1 : Int32} (h : (zQ [22, 23, 24, 25, 9] [(3, 62, 62)] [] []) σ0 σ) : zpc (fX12_tile_140 σ x2 x4 x6 s0 s1) (fun r => (zQ [22, 23, 24, 25, 9] [(3, 62, 62)] [] []) σ0 (r)) := by
  unfold fX12_tile_140
  exact zpc_ck (fD_fX12_tile_141 h)
theorem fD_fX12_tile_118 {σ0 : zSt} {σ : zSt} {x1 : Int32} {x2 : Int32} {x3 : Int32} {x4 : Int32} {x6 : Int32} (h : (zQ [22, 23, 24, 25, 9] [(3, 62, 62)] [] []) σ0 σ) : zpc (fX12_tile_118 σ x1 x2 x3 x4 x6) (fun r => (zQ [22, 23, 24, 25, 9] [(3, 62, 62)] [] []) σ0 (r)) := by
  unfold fX12_tile_118
  exact zpc_ck (zpc_if (fun _ => fD_fX12_tile_140 h) (fun _ => fD_fX12_tile_140 h))
theorem fD_fX12_tile_84 {σ0 : zSt} {σ : zSt} {x1 : Int32} {x2 : Int32} {x3 : Int32} {x4 : Int32} {s0 : Int32} (h : (zQ [22, 23, 24, 25, 9] [(3, 62, 62)] [] []) σ0 σ) : zpc (fX12_tile_84 σ x1 x2 x3 x4 s0) (fun r => (zQ [22, 23, 24, 25, 9] [(3, 62, 62)] [] []) σ0 (r)) := by
  unfold fX12_tile_84
  exact zpc_bv (fun v11 _ => zpc_if (fun _ => fD_fX12_tile_118 h) (fun _ => zpc_bi (fD_fX12_bit h) (fun σ12 v13 hσ12 => zpc_if (fun _ => fD_fX12_tile_141 hσ12) (fun _ => fD_fX12_tile_118 hσ12))))
theorem fD_fX12_tile_78 {σ0 : zSt} {σ : zSt} {x1 : Int32} {x2 : Int32} {x3 : Int32} {x4 : Int32} (h : (zQ [22, 23, 24, 25, 9] [(3, 62, 62)] [] []) σ0 σ) : zpc (fX12_tile_78 σ x1 x2 x3 x4) (fun r => (zQ [22, 23, 24, 25, 9] [(3, 62, 62)] [] []) σ0 (r)) := by
  unfold fX12_tile_78
  exact zpc_bi (fD_fX12_reg h) (fun σ14 v15 hσ14 => fD_fX12_tile_84 hσ14)
theorem fD_fX12_tile_55 {σ0 : zSt} {σ : zSt} {x1 : Int32} {x2 : Int32} {x3 : Int32} {s0 : Int32} (h : (zQ [22, 23, 24, 25, 9] [(3, 62, 62)] [] []) σ0 σ) : zpc (fX12_tile_55 σ x1 x2 x3 s0) (fun r => (zQ [22, 23, 24, 25, 9] [(3, 62, 62)] [] []) σ0 (r)) := by
  unfold fX12_tile_55
  exact zpc_if (fun _ => fD_fX12_tile_78 h) (fun _ => zpc_bi (fD_fX12_bit h) (fun σ16 v17 hσ16 => zpc_if (fun _ => fD_fX12_tile_84 hσ16) (fun _ => fD_fX12_tile_78 hσ16)))
theorem fD_fX12_tile_15 {σ0 : zSt} {σ : zSt} {x1 : Int32} {x2 : Int32} {s0 : Int32} (h : (zQ [22, 23, 24, 25, 9] [(3, 62, 62)] [] []) σ0 σ) : zpc (fX12_tile_15 σ x1 x2 s0) (fun r => (zQ [22, 23, 24, 25, 9] [(3, 62, 62)] [] []) σ0 (r)) := by
  unfold fX12_tile_15
  exact zpc_if (fun _ => zpc_bi (fD_fX12_reg h) (fun σ18 v19 hσ18 => zpc_ck (zpc_ck (fD_fX12_tile_55 hσ18)))) (fun _ => zpc_bi (fD_fX12_reg h) (fun σ20 v21 hσ20 => zpc_ck (fD_fX12_tile_55 hσ20)))
theorem fD_fX12_tile {σ0 : zSt} {σ : zSt} {x1 : Int32} {x2 : Int32} (h : (zQ [22, 23, 24, 25, 9] [(3, 62, 62)] [] []) σ0 σ) : zpc (fX12_tile σ x1 x2) (fun r => (zQ [22, 23, 24, 25, 9] [(3, 62, 62)] [] []) σ0 (r)) := by
  unfold fX12_tile
  exact zpc_bi (fD_fX12_height h) (fun σ22 v23 hσ22 => zpc_if (fun _ => fD_fX12_tile_15 hσ22) (fun _ => fD_fX12_tile_15 hσ22))
theorem fD_fX12_sprites_349 {σ0 : zSt} {k73 : zSt → Int32 → Int32 → Int32 → Int32 → Int32 → Int32 → Int32 → Option (zSt)} (hk73 : ∀ (y0 : zSt) (y1 : Int32) (y2 : Int32) (y3 : Int32) (y4 : Int32) (y5 : Int32) (y6 : Int32) (y7 : Int32), (zQ [22, 23, 24, 25, 9] [(3, 62, 62)] [] []) σ0 y0 → zpc (k73 y0 y1 y2 y3 y4 y5 y6 y7) (fun r => (zQ [22, 23, 24, 25, 9] [(3, 62, 62)] [] []) σ0 (r))) {σ : zSt} {x1 : Int32} {x2 : Int32} {x3 : Int32} {x4 : Int32} {x5 : Int32} {x6 : Int32} {x7 : Int32} (h : (zQ [22, 23, 24, 25, 9] [(3, 62, 62)] [] []) σ0 σ) : zpc (fX12_sprites_349 k73 σ x1 x2 x3 x4 x5 x6 x7) (fun r => (zQ [22, 23, 24, 25, 9] [(3, 62, 62)] [] []) σ0 (r)) := by
  unfold fX12_sprites_349
  exact zpc_bv (fun v1 _ => hk73 _ _ _ _ _ _ _ _ h)
theorem fD_fX12_sprites_343 {σ0 : zSt} {k73 : zSt → Int32 → Int32 → Int32 → Int32 → Int32 → Int32 → Int32 → Option (zSt)} (hk73 : ∀ (y0 : zSt) (y1 : Int32) (y2 : Int32) (y3 : Int32) (y4 : Int32) (y5 : Int32) (y6 : Int32) (y7 : Int32), (zQ [22, 23, 24, 25, 9] [(3, 62, 62)] [] []) σ0 y0 → zpc (k73 y0 y1 y2 y3 y4 y5 y6 y7) (fun r => (zQ [22, 23, 24, 25, 9] [(3, 62, 62)] [] []) σ0 (r))) {k250 : zSt → Int32 → Int32 → Int32 → Int32 → Int32 → Int32 → Int32 → Int32 → Int32 → Int32 → Int32 → Option (zSt)} (hk250 : ∀ (y0 : zSt) (y1 : Int32) (y2 : Int32) (y3 : Int32) (y4 : Int32) (y5 : Int32) (y6 : Int32) (y7 : Int32) (y8 : Int32) (y9 : Int32) (y10 : Int32) (y11 : Int32), (zQ [22, 23, 24, 25, 9] [(3, 62, 62)] [] []) σ0 y0 → zpc (k250 y0 y1 y2 y3 y4 y5 y6 y7 y8 y9 y10 y11) (fun r => (zQ [22, 23, 24, 25, 9] [(3, 62, 62)] [] []) σ0 (r))) {σ : zSt} {x1 : Int32} {x2 : Int32} {x3 : Int32} {x4 : Int32} {x5 : Int32} {x6 : Int32} {x7 : Int32} {x9 : Int32} {x10 : Int32} {x11 : Int32} {x12 : Int32} (h : (zQ [22, 23, 24, 25, 9] [(3, 62, 62)] [] []) σ0 σ) : zpc (fX12_sprites_343 k73 k250 σ x1 x2 x3 x4 x5 x6 x7 x9 x10 x11 x12) (fun r => (zQ [22, 23, 24, 25, 9] [(3, 62, 62)] [] []) σ0 (r)) := by
  unfold fX12_sprites_343
  exact zpc_bv (fun v2 _ => hk250 _ _ _ _ _ _ _ _ _ _ _ _ h)
theorem fD_fX12_sprites_250_body {σ0 : zSt} {k73 : zSt → Int32 → Int32 → Int32 → Int32 → Int32 → Int32 → Int32 → Option (zSt)} (hk73 : ∀ (y0 : zSt) (y1 : Int32) (y2 : Int32) (y3 : Int32) (y4 : Int32) (y5 : Int32) (y6 : Int32) (y7 : Int32), (zQ [22, 23, 24, 25, 9] [(3, 62, 62)] [] []) σ0 y0 → zpc (k73 y0 y1 y2 y3 y4 y5 y6 y7) (fun r => (zQ [22, 23, 24, 25, 9] [(3, 62, 62)] [] []) σ0 (r))) {k250 : zSt → Int32 → Int32 → Int32 → Int32 → Int32 → Int32 → Int32 → Int32 → Int32 → Int32 → Int32 → Option (zSt)} (hk250 : ∀ (y0 : zSt) (y1 : Int32) (y2 : Int32) (y3 : Int32) (y4 : Int32) (y5 : Int32) (y6 : Int32) (y7 : Int32) (y8 : Int32) (y9 : Int32) (y10 : Int32) (y11 : Int32), (zQ [22, 23, 24, 25, 9] [(3, 62, 62)] [] []) σ0 y0 → zpc (k250 y0 y1 y2 y3 y4 y5 y6 y7 y8 y9 y10 y11) (fun r => (zQ [22, 23, 24, 25, 9] [(3, 62, 62)] [] []) σ0 (r))) {σ : zSt} {x1 : Int32} {x2 : Int32} {x3 : Int32} {x4 : Int32} {x5 : Int32} {x6 : Int32} {x7 : Int32} {x9 : Int32} {x10 : Int32} {x11 : Int32} {x12 : Int32} (h : (zQ [22, 23, 24, 25, 9] [(3, 62, 62)] [] []) σ0 σ) : zpc (fX12_sprites_250_body k73 k250 σ x1 x2 x3 x4 x5 x6 x7 x9 x10 x11 x12) (fun r => (zQ [22, 23, 24, 25, 9] [(3, 62, 62)] [] []) σ0 (r)) := by
  unfold fX12_sprites_250_body
  exact zpc_if (fun _ => fD_fX12_sprites_349 hk73 h) (fun _ => zpc_ck (zpc_ck (zpc_ck (zpc_bi (fD_fX12_tileDot h) (fun σ3 v4 hσ3 => zpc_bv (fun v5 _ => zpc_if (fun _ => fD_fX12_sprites_343 hk73 hk250 hσ3) (fun _ => zpc_if (fun _ => fD_fX12_sprites_343 hk73 hk250 hσ3) (fun _ => zpc_if (fun _ => zpc_ck (zpc_if (fun _ => zpc_ck (zpc_bs (zQ.wi hσ3 rfl) (fun σ6 hσ6 => fD_fX12_sprites_343 hk73 hk250 hσ6))) (fun _ => zpc_ck (zpc_ck (zpc_bs (zQ.wi hσ3 rfl) (fun σ7 hσ7 => fD_fX12_sprites_343 hk73 hk250 hσ7)))))) (fun _ => fD_fX12_sprites_343 hk73 hk250 hσ3)))))))))
theorem fD_fX12_sprites_250 {σ0 : zSt} {k73 : zSt → Int32 → Int32 → Int32 → Int32 → Int32 → Int32 → Int32 → Option (zSt)} (hk73 : ∀ (y0 : zSt) (y1 : Int32) (y2 : Int32) (y3 : Int32) (y4 : Int32) (y5 : Int32) (y6 : Int32) (y7 : Int32), (zQ [22, 23, 24, 25, 9] [(3, 62, 62)] [] []) σ0 y0 → zpc (k73 y0 y1 y2 y3 y4 y5 y6 y7) (fun r => (zQ [22, 23, 24, 25, 9] [(3, 62, 62)] [] []) σ0 (r))) : ∀ (n : Nat) (y0 : zSt) (y1 : Int32) (y2 : Int32) (y3 : Int32) (y4 : Int32) (y5 : Int32) (y6 : Int32) (y7 : Int32) (y8 : Int32) (y9 : Int32) (y10 : Int32) (y11 : Int32), (zQ [22, 23, 24, 25, 9] [(3, 62, 62)] [] []) σ0 y0 → zpc (fX12_sprites_250 k73 n y0 y1 y2 y3 y4 y5 y6 y7 y8 y9 y10 y11) (fun r => (zQ [22, 23, 24, 25, 9] [(3, 62, 62)] [] []) σ0 (r)) := by
  intro n
  induction n with
  | zero => intro y0 y1 y2 y3 y4 y5 y6 y7 y8 y9 y10 y11 h; exact zpc_none
  | succ n ih => intro y0 y1 y2 y3 y4 y5 y6 y7 y8 y9 y10 y11 h; exact fD_fX12_sprites_250_body hk73 ih h
theorem fD_fX12_sprites_244 {σ0 : zSt} {k73 : zSt → Int32 → Int32 → Int32 → Int32 → Int32 → Int32 → Int32 → Option (zSt)} (hk73 : ∀ (y0 : zSt) (y1 : Int32) (y2 : Int32) (y3 : Int32) (y4 : Int32) (y5 : Int32) (y6 : Int32) (y7 : Int32), (zQ [22, 23, 24, 25, 9] [(3, 62, 62)] [] []) σ0 y0 → zpc (k73 y0 y1 y2 y3 y4 y5 y6 y7) (fun r => (zQ [22, 23, 24, 25, 9] [(3, 62, 62)] [] []) σ0 (r))) {σ : zSt} {x1 : Int32} {x2 : Int32} {x3 : Int32} {x4 : Int32} {x5 : Int32} {x6 : Int32} {x7 : Int32} {x9 : Int32} {x10 : Int32} {s0 : Int32} {s1 : Int32} (h : (zQ [22, 23, 24, 25, 9] [(3, 62, 62)] [] []) σ0 σ) : zpc (fX12_sprites_244 k73 σ x1 x2 x3 x4 x5 x6 x7 x9 x10 s0 s1) (fun r => (zQ [22, 23, 24, 25, 9] [(3, 62, 62)] [] []) σ0 (r)) := by
  unfold fX12_sprites_244
  exact zpc_bv (fun v8 _ => fD_fX12_sprites_250 hk73 _ _ _ _ _ _ _ _ _ _ _ _ _ h)
theorem fD_fX12_sprites_212 {σ0 : zSt} {k73 : zSt → Int32 → Int32 → Int32 → Int32 → Int32 → Int32 → Int32 → Option (zSt)} (hk73 : ∀ (y0 : zSt) (y1 : Int32) (y2 : Int32) (y3 : Int32) (y4 : Int32) (y5 : Int32) (y6 : Int32) (y7 : Int32), (zQ [22, 23, 24, 25, 9] [(3, 62, 62)] [] []) σ0 y0 → zpc (k73 y0 y1 y2 y3 y4 y5 y6 y7) (fun r => (zQ [22, 23, 24, 25, 9] [(3, 62, 62)] [] []) σ0 (r))) {σ : zSt} {x1 : Int32} {x2 : Int32} {x3 : Int32} {x4 : Int32} {x5 : Int32} {x6 : Int32} {x7 : Int32} {x9 : Int32} {s0 : Int32} (h : (zQ [22, 23, 24, 25, 9] [(3, 62, 62)] [] []) σ0 σ) : zpc (fX12_sprites_212 k73 σ x1 x2 x3 x4 x5 x6 x7 x9 s0) (fun r => (zQ [22, 23, 24, 25, 9] [(3, 62, 62)] [] []) σ0 (r)) := by
  unfold fX12_sprites_212
  exact zpc_bi (fD_fX12_video8 h) (fun σ9 v10 hσ9 => zpc_bi (fD_fX12_bit hσ9) (fun σ11 v12 hσ11 => zpc_if (fun _ => fD_fX12_sprites_244 hk73 hσ11) (fun _ => fD_fX12_sprites_244 hk73 hσ11)))
theorem fD_fX12_sprites_183 {σ0 : zSt} {k73 : zSt → Int32 → Int32 → Int32 → Int32 → Int32 → Int32 → Int32 → Option (zSt)} (hk73 : ∀ (y0 : zSt) (y1 : Int32) (y2 : Int32) (y3 : Int32) (y4 : Int32) (y5 : Int32) (y6 : Int32) (y7 : Int32), (zQ [22, 23, 24, 25, 9] [(3, 62, 62)] [] []) σ0 y0 → zpc (k73 y0 y1 y2 y3 y4 y5 y6 y7) (fun r => (zQ [22, 23, 24, 25, 9] [(3, 62, 62)] [] []) σ0 (r))) {σ : zSt} {x1 : Int32} {x2 : Int32} {x3 : Int32} {x4 : Int32} {x5 : Int32} {x6 : Int32} {x7 : Int32} {x9 : Int32} {s0 : Int32} {s1 : Int32} (h : (zQ [22, 23, 24, 25, 9] [(3, 62, 62)] [] []) σ0 σ) : zpc (fX12_sprites_183 k73 σ x1 x2 x3 x4 x5 x6 x7 x9 s0 s1) (fun r => (zQ [22, 23, 24, 25, 9] [(3, 62, 62)] [] []) σ0 (r)) := by
  unfold fX12_sprites_183
  exact zpc_bv (fun v13 _ => zpc_if (fun _ => zpc_ck (zpc_ck (fD_fX12_sprites_212 hk73 h))) (fun _ => fD_fX12_sprites_212 hk73 h))
theorem fD_fX12_sprites_104 {σ0 : zSt} {k73 : zSt → Int32 → Int32 → Int32 → Int32 → Int32 → Int32 → Int32 → Option (zSt)} (hk73 : ∀ (y0 : zSt) (y1 : Int32) (y2 : Int32) (y3 : Int32) (y4 : Int32) (y5 : Int32) (y6 : Int32) (y7 : Int32), (zQ [22, 23, 24, 25, 9] [(3, 62, 62)] [] []) σ0 y0 → zpc (k73 y0 y1 y2 y3 y4 y5 y6 y7) (fun r => (zQ [22, 23, 24, 25, 9] [(3, 62, 62)] [] []) σ0 (r))) {σ : zSt} {x1 : Int32} {x2 : Int32} {x3 : Int32} {x4 : Int32} {x5 : Int32} {x6 : Int32} {x7 : Int32} {x8 : Int32} (h : (zQ [22, 23, 24, 25, 9] [(3, 62, 62)] [] []) σ0 σ) : zpc (fX12_sprites_104 k73 σ x1 x2 x3 x4 x5 x6 x7 x8) (fun r => (zQ [22, 23, 24, 25, 9] [(3, 62, 62)] [] []) σ0 (r)) := by
  unfold fX12_sprites_104
  exact zpc_bv (fun v14 _ => zpc_if (fun _ => zpc_if (fun _ => zpc_ck (zpc_ck (zpc_bs (zQ.wi h rfl) (fun σ20 hσ20 => zpc_some hσ20)))) (fun _ => zpc_bv (fun v15 _ => zpc_bi (fD_fX12_video8 h) (fun σ16 v17 hσ16 => zpc_bi (fD_fX12_bit hσ16) (fun σ18 v19 hσ18 => zpc_if (fun _ => fD_fX12_sprites_183 hk73 hσ18) (fun _ => fD_fX12_sprites_183 hk73 hσ18)))))) (fun _ => fD_fX12_sprites_349 hk73 h))
theorem fD_fX12_sprites_73_body {σ0 : zSt} {k73 : zSt → Int32 → Int32 → Int32 → Int32 → Int32 → Int32 → Int32 → Option (zSt)} (hk73 : ∀ (y0 : zSt) (y1 : Int32) (y2 : Int32) (y3 : Int32) (y4 : Int32) (y5 : Int32) (y6 : Int32) (y7 : Int32), (zQ [22, 23, 24, 25, 9] [(3, 62, 62)] [] []) σ0 y0 → zpc (k73 y0 y1 y2 y3 y4 y5 y6 y7) (fun r => (zQ [22, 23, 24, 25, 9] [(3, 62, 62)] [] []) σ0 (r))) {σ : zSt} {x1 : Int32} {x2 : Int32} {x3 : Int32} {x4 : Int32} {x5 : Int32} {x6 : Int32} {x7 : Int32} (h : (zQ [22, 23, 24, 25, 9] [(3, 62, 62)] [] []) σ0 σ) : zpc (fX12_sprites_73_body k73 σ x1 x2 x3 x4 x5 x6 x7) (fun r => (zQ [22, 23, 24, 25, 9] [(3, 62, 62)] [] []) σ0 (r)) := by
  unfold fX12_sprites_73_body
  exact zpc_if (fun _ => zpc_some h) (fun _ => zpc_bi (fD_fX12_video8 h) (fun σ21 v22 hσ21 => zpc_if (fun _ => fD_fX12_sprites_104 hk73 hσ21) (fun _ => zpc_if (fun _ => zpc_some hσ21) (fun _ => fD_fX12_sprites_104 hk73 hσ21))))
theorem fD_fX12_sprites_73 {σ0 : zSt} : ∀ (n : Nat) (y0 : zSt) (y1 : Int32) (y2 : Int32) (y3 : Int32) (y4 : Int32) (y5 : Int32) (y6 : Int32) (y7 : Int32), (zQ [22, 23, 24, 25, 9] [(3, 62, 62)] [] []) σ0 y0 → zpc (fX12_sprites_73 n y0 y1 y2 y3 y4 y5 y6 y7) (fun r => (zQ [22, 23, 24, 25, 9] [(3, 62, 62)] [] []) σ0 (r)) := by
  intro n
  induction n with
  | zero => intro y0 y1 y2 y3 y4 y5 y6 y7 h; exact zpc_none
  | succ n ih => intro y0 y1 y2 y3 y4 y5 y6 y7 h; exact fD_fX12_sprites_73_body ih h
theorem fD_fX12_sprites_68 {σ0 : zSt} {σ : zSt} {x1 : Int32} {x2 : Int32} {x3 : Int32} {x4 : Int32} {x5 : Int32} {s0 : Int32} (h : (zQ [22, 23, 24, 25, 9] [(3, 62, 62)] [] []) σ0 σ) : zpc (fX12_sprites_68 σ x1 x2 x3 x4 x5 s0) (fun r => (zQ [22, 23, 24, 25, 9] [(3, 62, 62)] [] []) σ0 (r)) := by
  unfold fX12_sprites_68
  exact fD_fX12_sprites_73 _ _ _ _ _ _ _ _ _ h
theorem fD_fX12_sprites_48 {σ0 : zSt} {σ : zSt} {x1 : Int32} {x2 : Int32} {x3 : Int32} {s0 : Int32} (h : (zQ [22, 23, 24, 25, 9] [(3, 62, 62)] [] []) σ0 σ) : zpc (fX12_sprites_48 σ x1 x2 x3 s0) (fun r => (zQ [22, 23, 24, 25, 9] [(3, 62, 62)] [] []) σ0 (r)) := by
  unfold fX12_sprites_48
  exact zpc_bi (fD_fX12_height h) (fun σ23 v24 hσ23 => zpc_if (fun _ => fD_fX12_sprites_68 hσ23) (fun _ => fD_fX12_sprites_68 hσ23))
theorem fD_fX12_sprites_30 {σ0 : zSt} {σ : zSt} {x1 : Int32} {x2 : Int32} {s0 : Int32} (h : (zQ [22, 23, 24, 25, 9] [(3, 62, 62)] [] []) σ0 σ) : zpc (fX12_sprites_30 σ x1 x2 s0) (fun r => (zQ [22, 23, 24, 25, 9] [(3, 62, 62)] [] []) σ0 (r)) := by
  unfold fX12_sprites_30
  exact zpc_bi (fD_fX12_bit h) (fun σ25 v26 hσ25 => zpc_if (fun _ => fD_fX12_sprites_48 hσ25) (fun _ => fD_fX12_sprites_48 hσ25))
theorem fD_fX12_sprites {σ0 : zSt} {σ : zSt} {x1 : Int32} (h : (zQ [22, 23, 24, 25, 9] [(3, 62, 62)] [] []) σ0 σ) : zpc (fX12_sprites σ x1) (fun r => (zQ [22, 23, 24, 25, 9] [(3, 62, 62)] [] []) σ0 (r)) := by
  unfold fX12_sprites
  exact zpc_bi (fD_fX12_reg h) (fun σ27 v28 hσ27 => zpc_ck (zpc_ck (zpc_bv (fun v29 _ => zpc_bi (fD_fX12_bit hσ27) (fun σ30 v31 hσ30 => zpc_if (fun _ => fD_fX12_sprites_30 hσ30) (fun _ => fD_fX12_sprites_30 hσ30))))))
theorem fD_fX12_colour_62 {σ0 : zSt} {σ : zSt} {s0 : Int32} (h : (zQ [22, 23, 24, 25, 9] [(3, 62, 62)] [] []) σ0 σ) : zpc (fX12_colour_62 σ s0) (fun r => (zQ [22, 23, 24, 25, 9] [(3, 62, 62)] [] []) σ0 (r.1)) := by
  unfold fX12_colour_62
  exact zpc_some h
theorem fD_fX12_colour_252 {σ0 : zSt} {σ : zSt} {s0 : Int32} (h : (zQ [22, 23, 24, 25, 9] [(3, 62, 62)] [] []) σ0 σ) : zpc (fX12_colour_252 σ s0) (fun r => (zQ [22, 23, 24, 25, 9] [(3, 62, 62)] [] []) σ0 (r.1)) := by
  unfold fX12_colour_252
  exact zpc_some h
theorem fD_fX12_colour_217 {σ0 : zSt} {σ : zSt} {x2 : Int32} (h : (zQ [22, 23, 24, 25, 9] [(3, 62, 62)] [] []) σ0 σ) : zpc (fX12_colour_217 σ x2) (fun r => (zQ [22, 23, 24, 25, 9] [(3, 62, 62)] [] []) σ0 (r.1)) := by
  unfold fX12_colour_217
  exact zpc_if (fun _ => zpc_ck (zpc_ck (zpc_ck (zpc_ck (fD_fX12_colour_252 h))))) (fun _ => fD_fX12_colour_252 h)
theorem fD_fX12_colour {σ0 : zSt} {σ : zSt} {x1 : Int32} (h : (zQ [22, 23, 24, 25, 9] [(3, 62, 62)] [] []) σ0 σ) : zpc (fX12_colour σ x1) (fun r => (zQ [22, 23, 24, 25, 9] [(3, 62, 62)] [] []) σ0 (r.1)) := by
  unfold fX12_colour
  exact zpc_bi (fD_fX12_mode h) (fun σ1 v2 hσ1 => zpc_if (fun _ => zpc_if (fun _ => zpc_ck (zpc_ck (zpc_ck (fD_fX12_colour_62 hσ1)))) (fun _ => zpc_ck (fD_fX12_colour_62 hσ1))) (fun _ => zpc_if (fun _ => fD_fX12_colour_217 hσ1) (fun _ => zpc_if (fun _ => fD_fX12_colour_217 hσ1) (fun _ => zpc_if (fun _ => fD_fX12_colour_217 hσ1) (fun _ => zpc_if (fun _ => fD_fX12_colour_217 hσ1) (fun _ => zpc_if (fun _ => fD_fX12_colour_217 hσ1) (fun _ => zpc_if (fun _ => fD_fX12_colour_217 hσ1) (fun _ => zpc_if (fun _ => fD_fX12_colour_217 hσ1) (fun _ => zpc_if (fun _ => fD_fX12_colour_217 hσ1) (fun _ => zpc_if (fun _ => fD_fX12_colour_217 hσ1) (fun _ => zpc_if (fun _ => fD_fX12_colour_217 hσ1) (fun _ => zpc_if (fun _ => fD_fX12_colour_217 hσ1) (fun _ => zpc_if (fun _ => fD_fX12_colour_217 hσ1) (fun _ => zpc_if (fun _ => fD_fX12_colour_217 hσ1) (fun _ => zpc_if (fun _ => fD_fX12_colour_217 hσ1) (fun _ => fD_fX12_colour_217 hσ1))))))))))))))))
theorem fD_fX12_old_48 {σ0 : zSt} {σ : zSt} (h : (zQ [22, 23, 24, 25, 9] [(3, 62, 62)] [] []) σ0 σ) : zpc (fX12_old_48 σ) (fun r => (zQ [22, 23, 24, 25, 9] [(3, 62, 62)] [] []) σ0 (r.1)) := by
  unfold fX12_old_48
  exact zpc_some h
theorem fD_fX12_old_131 {σ0 : zSt} {σ : zSt} {s0 : Int32} (h : (zQ [22, 23, 24, 25, 9] [(3, 62, 62)] [] []) σ0 σ) : zpc (fX12_old_131 σ s0) (fun r => (zQ [22, 23, 24, 25, 9] [(3, 62, 62)] [] []) σ0 (r.1)) := by
  unfold fX12_old_131
  exact zpc_some h
theorem fD_fX12_old_209 {σ0 : zSt} {σ : zSt} {s0 : Int32} (h : (zQ [22, 23, 24, 25, 9] [(3, 62, 62)] [] []) σ0 σ) : zpc (fX12_old_209 σ s0) (fun r => (zQ [22, 23, 24, 25, 9] [(3, 62, 62)] [] []) σ0 (r.1)) := by
  unfold fX12_old_209
  exact zpc_some h
theorem fD_fX12_old_395 {σ0 : zSt} {σ : zSt} {s0 : Int32} (h : (zQ [22, 23, 24, 25, 9] [(3, 62, 62)] [] []) σ0 σ) : zpc (fX12_old_395 σ s0) (fun r => (zQ [22, 23, 24, 25, 9] [(3, 62, 62)] [] []) σ0 (r.1)) := by
  unfold fX12_old_395
  exact zpc_some h
theorem fD_fX12_old_367 {σ0 : zSt} {σ : zSt} {x2 : Int32} {x6 : Int32} {x7 : Int32} (h : (zQ [22, 23, 24, 25, 9] [(3, 62, 62)] [] []) σ0 σ) : zpc (fX12_old_367 σ x2 x6 x7) (fun r => (zQ [22, 23, 24, 25, 9] [(3, 62, 62)] [] []) σ0 (r.1)) := by
  unfold fX12_old_367
  exact zpc_ck (zpc_if (fun _ => fD_fX12_old_395 h) (fun _ => fD_fX12_old_395 h))
theorem fD_fX12_old {σ0 : zSt} {σ : zSt} {x1 : Int32} {x2 : Int32} (h : (zQ [22, 23, 24, 25, 9] [(3, 62, 62)] [] []) σ0 σ) : zpc (fX12_old σ x1 x2) (fun r => (zQ [22, 23, 24, 25, 9] [(3, 62, 62)] [] []) σ0 (r.1)) := by
  unfold fX12_old
  exact zpc_bi (fD_fX12_reg h) (fun σ1 v2 hσ1 => zpc_ck (zpc_bv (fun v3 _ => zpc_bi (fD_fX12_reg hσ1) (fun σ4 v5 hσ4 => zpc_ck (zpc_bv (fun v6 _ => zpc_bi (fD_fX12_mode hσ4) (fun σ7 v8 hσ7 => zpc_if (fun _ => zpc_if (fun _ => fD_fX12_old_48 hσ7) (fun _ => zpc_if (fun _ => zpc_ck (zpc_ck (zpc_bi (fD_fX12_video8 hσ7) (fun σ38 v39 hσ38 => zpc_ck (zpc_bi (fD_fX12_video8 hσ38) (fun σ40 v41 hσ40 => zpc_ck (zpc_bv (fun v42 _ => zpc_if (fun _ => zpc_bi (fD_fX12_reg hσ40) (fun σ45 v46 hσ45 => fD_fX12_old_131 hσ45)) (fun _ => zpc_bi (fD_fX12_reg hσ40) (fun σ43 v44 hσ43 => fD_fX12_old_131 hσ43)))))))))) (fun _ => fD_fX12_old_48 hσ7))) (fun _ => zpc_ck (zpc_ck (zpc_bi (fD_fX12_video8 hσ7) (fun σ9 v10 hσ9 => zpc_bi (fD_fX12_mode hσ9) (fun σ11 v12 hσ11 => zpc_if (fun _ => zpc_ck (zpc_ck (zpc_ck (zpc_ck (zpc_bi (fD_fX12_video8 hσ11) (fun σ36 v37 hσ36 => zpc_ck (zpc_if (fun _ => fD_fX12_old_209 hσ36) (fun _ => fD_fX12_old_209 hσ36)))))))) (fun _ => zpc_bi (fD_fX12_mode hσ11) (fun σ13 v14 hσ13 => zpc_if (fun _ => zpc_ck (zpc_bi (fD_fX12_video8 hσ13) (fun σ30 v31 hσ30 => zpc_bi (fD_fX12_reg hσ30) (fun σ32 v33 hσ32 => zpc_ck (zpc_bi (fD_fX12_video8 hσ32) (fun σ34 v35 hσ34 => fD_fX12_old_367 hσ34)))))) (fun _ => zpc_ck (zpc_bv (fun v15 _ => zpc_bi (fD_fX12_reg hσ13) (fun σ16 v17 hσ16 => zpc_ck (zpc_bv (fun v18 _ => zpc_bi (fD_fX12_reg hσ16) (fun σ19 v20 hσ19 => zpc_ck (zpc_bv (fun v21 _ => zpc_bi (fD_fX12_bit hσ19) (fun σ22 v23 hσ22 => zpc_ck (zpc_bi (fD_fX12_video8 hσ22) (fun σ24 v25 hσ24 => zpc_bi (fD_fX12_bit hσ24) (fun σ26 v27 hσ26 => zpc_ck (zpc_bi (fD_fX12_video8 hσ26) (fun σ28 v29 hσ28 => fD_fX12_old_367 hσ28)))))))))))))))))))))))))))))
theorem fD_fX12_oldSprites_388 {σ0 : zSt} {k40 : zSt → Int32 → Int32 → Int32 → Int32 → Int32 → Option (zSt)} (hk40 : ∀ (y0 : zSt) (y1 : Int32) (y2 : Int32) (y3 : Int32) (y4 : Int32) (y5 : Int32), (zQ [22, 23, 24, 25, 9] [(3, 62, 62)] [] []) σ0 y0 → zpc (k40 y0 y1 y2 y3 y4 y5) (fun r => (zQ [22, 23, 24, 25, 9] [(3, 62, 62)] [] []) σ0 (r))) {σ : zSt} {x1 : Int32} {x2 : Int32} {x3 : Int32} {x4 : Int32} {x5 : Int32} (h : (zQ [22, 23, 24, 25, 9] [(3, 62, 62)] [] []) σ0 σ) : zpc (fX12_oldSprites_388 k40 σ x1 x2 x3 x4 x5) (fun r => (zQ [22, 23, 24, 25, 9] [(3, 62, 62)] [] []) σ0 (r)) := by
  unfold fX12_oldSprites_388
  exact zpc_bv (fun v1 _ => hk40 _ _ _ _ _ _ h)
theorem fD_fX12_oldSprites_150 {σ0 : zSt} {σ : zSt} (h : (zQ [22, 23, 24, 25, 9] [(3, 62, 62)] [] []) σ0 σ) : zpc (fX12_oldSprites_150 σ) (fun r => (zQ [22, 23, 24, 25, 9] [(3, 62, 62)] [] []) σ0 (r)) := by
  unfold fX12_oldSprites_150
  exact zpc_some h
theorem fD_fX12_oldSprites_382 {σ0 : zSt} {k40 : zSt → Int32 → Int32 → Int32 → Int32 → Int32 → Option (zSt)} (hk40 : ∀ (y0 : zSt) (y1 : Int32) (y2 : Int32) (y3 : Int32) (y4 : Int32) (y5 : Int32), (zQ [22, 23, 24, 25, 9] [(3, 62, 62)] [] []) σ0 y0 → zpc (k40 y0 y1 y2 y3 y4 y5) (fun r => (zQ [22, 23, 24, 25, 9] [(3, 62, 62)] [] []) σ0 (r))) {k231 : zSt → Int32 → Int32 → Int32 → Int32 → Int32 → Int32 → Int32 → Int32 → Int32 → Int32 → Option (zSt)} (hk231 : ∀ (y0 : zSt) (y1 : Int32) (y2 : Int32) (y3 : Int32) (y4 : Int32) (y5 : Int32) (y6 : Int32) (y7 : Int32) (y8 : Int32) (y9 : Int32) (y10 : Int32), (zQ [22, 23, 24, 25, 9] [(3, 62, 62)] [] []) σ0 y0 → zpc (k231 y0 y1 y2 y3 y4 y5 y6 y7 y8 y9 y10) (fun r => (zQ [22, 23, 24, 25, 9] [(3, 62, 62)] [] []) σ0 (r))) {σ : zSt} {x1 : Int32} {x2 : Int32} {x3 : Int32} {x4 : Int32} {x5 : Int32} {x8 : Int32} {x9 : Int32} {x10 : Int32} {x11 : Int32} {x12 : Int32} (h : (zQ [22, 23, 24, 25, 9] [(3, 62, 62)] [] []) σ0 σ) : zpc (fX12_oldSprites_382 k40 k231 σ x1 x2 x3 x4 x5 x8 x9 x10 x11 x12) (fun r => (zQ [22, 23, 24, 25, 9] [(3, 62, 62)] [] []) σ0 (r)) := by
  unfold fX12_oldSprites_382
  exact zpc_bv (fun v2 _ => hk231 _ _ _ _ _ _ _ _ _ _ _ h)
theorem fD_fX12_oldSprites_350 {σ0 : zSt} {k40 : zSt → Int32 → Int32 → Int32 → Int32 → Int32 → Option (zSt)} (hk40 : ∀ (y0 : zSt) (y1 : Int32) (y2 : Int32) (y3 : Int32) (y4 : Int32) (y5 : Int32), (zQ [22, 23, 24, 25, 9] [(3, 62, 62)] [] []) σ0 y0 → zpc (k40 y0 y1 y2 y3 y4 y5) (fun r => (zQ [22, 23, 24, 25, 9] [(3, 62, 62)] [] []) σ0 (r))) {k231 : zSt → Int32 → Int32 → Int32 → Int32 → Int32 → Int32 → Int32 → Int32 → Int32 → Int32 → Option (zSt)} (hk231 : ∀ (y0 : zSt) (y1 : Int32) (y2 : Int32) (y3 : Int32) (y4 : Int32) (y5 : Int32) (y6 : Int32) (y7 : Int32) (y8 : Int32) (y9 : Int32) (y10 : Int32), (zQ [22, 23, 24, 25, 9] [(3, 62, 62)] [] []) σ0 y0 → zpc (k231 y0 y1 y2 y3 y4 y5 y6 y7 y8 y9 y10) (fun r => (zQ [22, 23, 24, 25, 9] [(3, 62, 62)] [] []) σ0 (r))) {σ : zSt} {x1 : Int32} {x2 : Int32} {x3 : Int32} {x4 : Int32} {x5 : Int32} {x8 : Int32} {x9 : Int32} {x10 : Int32} {x11 : Int32} {x12 : Int32} {x15 : Int32} (h : (zQ [22, 23, 24, 25, 9] [(3, 62, 62)] [] []) σ0 σ) : zpc (fX12_oldSprites_350 k40 k231 σ x1 x2 x3 x4 x5 x8 x9 x10 x11 x12 x15) (fun r => (zQ [22, 23, 24, 25, 9] [(3, 62, 62)] [] []) σ0 (r)) := by
  unfold fX12_oldSprites_350
  exact zpc_ck (zpc_bs (zQ.wi h rfl) (fun σ3 hσ3 => zpc_if (fun _ => fD_fX12_oldSprites_382 hk40 hk231 hσ3) (fun _ => zpc_ck (zpc_if (fun _ => zpc_ck (zpc_bs (zQ.wi hσ3 rfl) (fun σ4 hσ4 => fD_fX12_oldSprites_382 hk40 hk231 hσ4))) (fun _ => fD_fX12_oldSprites_382 hk40 hk231 hσ3)))))
theorem fD_fX12_oldSprites_283 {σ0 : zSt} {k40 : zSt → Int32 → Int32 → Int32 → Int32 → Int32 → Option (zSt)} (hk40 : ∀ (y0 : zSt) (y1 : Int32) (y2 : Int32) (y3 : Int32) (y4 : Int32) (y5 : Int32), (zQ [22, 23, 24, 25, 9] [(3, 62, 62)] [] []) σ0 y0 → zpc (k40 y0 y1 y2 y3 y4 y5) (fun r => (zQ [22, 23, 24, 25, 9] [(3, 62, 62)] [] []) σ0 (r))) {k231 : zSt → Int32 → Int32 → Int32 → Int32 → Int32 → Int32 → Int32 → Int32 → Int32 → Int32 → Option (zSt)} (hk231 : ∀ (y0 : zSt) (y1 : Int32) (y2 : Int32) (y3 : Int32) (y4 : Int32) (y5 : Int32) (y6 : Int32) (y7 : Int32) (y8 : Int32) (y9 : Int32) (y10 : Int32), (zQ [22, 23, 24, 25, 9] [(3, 62, 62)] [] []) σ0 y0 → zpc (k231 y0 y1 y2 y3 y4 y5 y6 y7 y8 y9 y10) (fun r => (zQ [22, 23, 24, 25, 9] [(3, 62, 62)] [] []) σ0 (r))) {σ : zSt} {x1 : Int32} {x2 : Int32} {x3 : Int32} {x4 : Int32} {x5 : Int32} {x8 : Int32} {x9 : Int32} {x10 : Int32} {x11 : Int32} {x12 : Int32} {x13 : Int32} {s0 : Int32} {s1 : Int32} (h : (zQ [22, 23, 24, 25, 9] [(3, 62, 62)] [] []) σ0 σ) : zpc (fX12_oldSprites_283 k40 k231 σ x1 x2 x3 x4 x5 x8 x9 x10 x11 x12 x13 s0 s1) (fun r => (zQ [22, 23, 24, 25, 9] [(3, 62, 62)] [] []) σ0 (r)) := by
  unfold fX12_oldSprites_283
  exact zpc_bi (fD_fX12_video8 h) (fun σ5 v6 hσ5 => zpc_ck (zpc_bv (fun v7 _ => zpc_bv (fun v8 _ => zpc_if (fun _ => fD_fX12_oldSprites_382 hk40 hk231 hσ5) (fun _ => zpc_if (fun _ => fD_fX12_oldSprites_382 hk40 hk231 hσ5) (fun _ => zpc_if (fun _ => zpc_ck (zpc_if (fun _ => fD_fX12_oldSprites_350 hk40 hk231 hσ5) (fun _ => zpc_ck (zpc_ck (zpc_bs (zQ.wi hσ5 rfl) (fun σ9 hσ9 => fD_fX12_oldSprites_350 hk40 hk231 hσ9)))))) (fun _ => fD_fX12_oldSprites_382 hk40 hk231 hσ5)))))))
theorem fD_fX12_oldSprites_231_body {σ0 : zSt} {k40 : zSt → Int32 → Int32 → Int32 → Int32 → Int32 → Option (zSt)} (hk40 : ∀ (y0 : zSt) (y1 : Int32) (y2 : Int32) (y3 : Int32) (y4 : Int32) (y5 : Int32), (zQ [22, 23, 24, 25, 9] [(3, 62, 62)] [] []) σ0 y0 → zpc (k40 y0 y1 y2 y3 y4 y5) (fun r => (zQ [22, 23, 24, 25, 9] [(3, 62, 62)] [] []) σ0 (r))) {k231 : zSt → Int32 → Int32 → Int32 → Int32 → Int32 → Int32 → Int32 → Int32 → Int32 → Int32 → Option (zSt)} (hk231 : ∀ (y0 : zSt) (y1 : Int32) (y2 : Int32) (y3 : Int32) (y4 : Int32) (y5 : Int32) (y6 : Int32) (y7 : Int32) (y8 : Int32) (y9 : Int32) (y10 : Int32), (zQ [22, 23, 24, 25, 9] [(3, 62, 62)] [] []) σ0 y0 → zpc (k231 y0 y1 y2 y3 y4 y5 y6 y7 y8 y9 y10) (fun r => (zQ [22, 23, 24, 25, 9] [(3, 62, 62)] [] []) σ0 (r))) {σ : zSt} {x1 : Int32} {x2 : Int32} {x3 : Int32} {x4 : Int32} {x5 : Int32} {x8 : Int32} {x9 : Int32} {x10 : Int32} {x11 : Int32} {x12 : Int32} (h : (zQ [22, 23, 24, 25, 9] [(3, 62, 62)] [] []) σ0 σ) : zpc (fX12_oldSprites_231_body k40 k231 σ x1 x2 x3 x4 x5 x8 x9 x10 x11 x12) (fun r => (zQ [22, 23, 24, 25, 9] [(3, 62, 62)] [] []) σ0 (r)) := by
  unfold fX12_oldSprites_231_body
  exact zpc_if (fun _ => fD_fX12_oldSprites_388 hk40 h) (fun _ => zpc_ck (zpc_bv (fun v10 _ => zpc_bi (fD_fX12_reg h) (fun σ11 v12 hσ11 => zpc_ck (zpc_ck (zpc_if (fun _ => fD_fX12_oldSprites_283 hk40 hk231 hσ11) (fun _ => fD_fX12_oldSprites_283 hk40 hk231 hσ11)))))))
theorem fD_fX12_oldSprites_231 {σ0 : zSt} {k40 : zSt → Int32 → Int32 → Int32 → Int32 → Int32 → Option (zSt)} (hk40 : ∀ (y0 : zSt) (y1 : Int32) (y2 : Int32) (y3 : Int32) (y4 : Int32) (y5 : Int32), (zQ [22, 23, 24, 25, 9] [(3, 62, 62)] [] []) σ0 y0 → zpc (k40 y0 y1 y2 y3 y4 y5) (fun r => (zQ [22, 23, 24, 25, 9] [(3, 62, 62)] [] []) σ0 (r))) : ∀ (n : Nat) (y0 : zSt) (y1 : Int32) (y2 : Int32) (y3 : Int32) (y4 : Int32) (y5 : Int32) (y6 : Int32) (y7 : Int32) (y8 : Int32) (y9 : Int32) (y10 : Int32), (zQ [22, 23, 24, 25, 9] [(3, 62, 62)] [] []) σ0 y0 → zpc (fX12_oldSprites_231 k40 n y0 y1 y2 y3 y4 y5 y6 y7 y8 y9 y10) (fun r => (zQ [22, 23, 24, 25, 9] [(3, 62, 62)] [] []) σ0 (r)) := by
  intro n
  induction n with
  | zero => intro y0 y1 y2 y3 y4 y5 y6 y7 y8 y9 y10 h; exact zpc_none
  | succ n ih => intro y0 y1 y2 y3 y4 y5 y6 y7 y8 y9 y10 h; exact fD_fX12_oldSprites_231_body hk40 ih h
theorem fD_fX12_oldSprites_225 {σ0 : zSt} {k40 : zSt → Int32 → Int32 → Int32 → Int32 → Int32 → Option (zSt)} (hk40 : ∀ (y0 : zSt) (y1 : Int32) (y2 : Int32) (y3 : Int32) (y4 : Int32) (y5 : Int32), (zQ [22, 23, 24, 25, 9] [(3, 62, 62)] [] []) σ0 y0 → zpc (k40 y0 y1 y2 y3 y4 y5) (fun r => (zQ [22, 23, 24, 25, 9] [(3, 62, 62)] [] []) σ0 (r))) {σ : zSt} {x1 : Int32} {x2 : Int32} {x3 : Int32} {x4 : Int32} {x5 : Int32} {x8 : Int32} {x9 : Int32} {x10 : Int32} {s0 : Int32} {s1 : Int32} (h : (zQ [22, 23, 24, 25, 9] [(3, 62, 62)] [] []) σ0 σ) : zpc (fX12_oldSprites_225 k40 σ x1 x2 x3 x4 x5 x8 x9 x10 s0 s1) (fun r => (zQ [22, 23, 24, 25, 9] [(3, 62, 62)] [] []) σ0 (r)) := by
  unfold fX12_oldSprites_225
  exact zpc_bv (fun v13 _ => fD_fX12_oldSprites_231 hk40 _ _ _ _ _ _ _ _ _ _ _ _ h)
theorem fD_fX12_oldSprites_183 {σ0 : zSt} {k40 : zSt → Int32 → Int32 → Int32 → Int32 → Int32 → Option (zSt)} (hk40 : ∀ (y0 : zSt) (y1 : Int32) (y2 : Int32) (y3 : Int32) (y4 : Int32) (y5 : Int32), (zQ [22, 23, 24, 25, 9] [(3, 62, 62)] [] []) σ0 y0 → zpc (k40 y0 y1 y2 y3 y4 y5) (fun r => (zQ [22, 23, 24, 25, 9] [(3, 62, 62)] [] []) σ0 (r))) {σ : zSt} {x1 : Int32} {x2 : Int32} {x3 : Int32} {x4 : Int32} {x5 : Int32} {x6 : Int32} {x8 : Int32} {s0 : Int32} (h : (zQ [22, 23, 24, 25, 9] [(3, 62, 62)] [] []) σ0 σ) : zpc (fX12_oldSprites_183 k40 σ x1 x2 x3 x4 x5 x6 x8 s0) (fun r => (zQ [22, 23, 24, 25, 9] [(3, 62, 62)] [] []) σ0 (r)) := by
  unfold fX12_oldSprites_183
  exact zpc_bi (fD_fX12_video8 h) (fun σ14 v15 hσ14 => zpc_bv (fun v16 _ => zpc_bi (fD_fX12_video8 hσ14) (fun σ17 v18 hσ17 => zpc_bi (fD_fX12_video8 hσ17) (fun σ19 v20 hσ19 => zpc_if (fun _ => fD_fX12_oldSprites_225 hk40 hσ19) (fun _ => fD_fX12_oldSprites_225 hk40 hσ19)))))
theorem fD_fX12_oldSprites_40_body {σ0 : zSt} {k40 : zSt → Int32 → Int32 → Int32 → Int32 → Int32 → Option (zSt)} (hk40 : ∀ (y0 : zSt) (y1 : Int32) (y2 : Int32) (y3 : Int32) (y4 : Int32) (y5 : Int32), (zQ [22, 23, 24, 25, 9] [(3, 62, 62)] [] []) σ0 y0 → zpc (k40 y0 y1 y2 y3 y4 y5) (fun r => (zQ [22, 23, 24, 25, 9] [(3, 62, 62)] [] []) σ0 (r))) {σ : zSt} {x1 : Int32} {x2 : Int32} {x3 : Int32} {x4 : Int32} {x5 : Int32} (h : (zQ [22, 23, 24, 25, 9] [(3, 62, 62)] [] []) σ0 σ) : zpc (fX12_oldSprites_40_body k40 σ x1 x2 x3 x4 x5) (fun r => (zQ [22, 23, 24, 25, 9] [(3, 62, 62)] [] []) σ0 (r)) := by
  unfold fX12_oldSprites_40_body
  exact zpc_if (fun _ => zpc_some h) (fun _ => zpc_bi (fD_fX12_reg h) (fun σ21 v22 hσ21 => zpc_ck (zpc_bv (fun v23 _ => zpc_bi (fD_fX12_video8 hσ21) (fun σ24 v25 hσ24 => zpc_if (fun _ => zpc_some hσ24) (fun _ => zpc_bv (fun v26 _ => zpc_if (fun _ => zpc_if (fun _ => zpc_ck (zpc_if (fun _ => zpc_ck (zpc_ck (zpc_bs (zQ.wi hσ24 rfl) (fun σ32 hσ32 => fD_fX12_oldSprites_150 hσ32)))) (fun _ => fD_fX12_oldSprites_150 hσ24))) (fun _ => zpc_bv (fun v27 _ => zpc_if (fun _ => zpc_bi (fD_fX12_video8 hσ24) (fun σ30 v31 hσ30 => fD_fX12_oldSprites_183 hk40 hσ30)) (fun _ => zpc_bi (fD_fX12_video8 hσ24) (fun σ28 v29 hσ28 => fD_fX12_oldSprites_183 hk40 hσ28))))) (fun _ => fD_fX12_oldSprites_388 hk40 hσ24))))))))
theorem fD_fX12_oldSprites_40 {σ0 : zSt} : ∀ (n : Nat) (y0 : zSt) (y1 : Int32) (y2 : Int32) (y3 : Int32) (y4 : Int32) (y5 : Int32), (zQ [22, 23, 24, 25, 9] [(3, 62, 62)] [] []) σ0 y0 → zpc (fX12_oldSprites_40 n y0 y1 y2 y3 y4 y5) (fun r => (zQ [22, 23, 24, 25, 9] [(3, 62, 62)] [] []) σ0 (r)) := by
  intro n
  induction n with
  | zero => intro y0 y1 y2 y3 y4 y5 h; exact zpc_none
  | succ n ih => intro y0 y1 y2 y3 y4 y5 h; exact fD_fX12_oldSprites_40_body ih h
theorem fD_fX12_oldSprites_33 {σ0 : zSt} {σ : zSt} {x1 : Int32} {x2 : Int32} {s0 : Int32} (h : (zQ [22, 23, 24, 25, 9] [(3, 62, 62)] [] []) σ0 σ) : zpc (fX12_oldSprites_33 σ x1 x2 s0) (fun r => (zQ [22, 23, 24, 25, 9] [(3, 62, 62)] [] []) σ0 (r)) := by
  unfold fX12_oldSprites_33
  exact fD_fX12_oldSprites_40 _ _ _ _ _ _ _ h
theorem fD_fX12_oldSprites_15 {σ0 : zSt} {σ : zSt} {x1 : Int32} {s0 : Int32} (h : (zQ [22, 23, 24, 25, 9] [(3, 62, 62)] [] []) σ0 σ) : zpc (fX12_oldSprites_15 σ x1 s0) (fun r => (zQ [22, 23, 24, 25, 9] [(3, 62, 62)] [] []) σ0 (r)) := by
  unfold fX12_oldSprites_15
  exact zpc_bi (fD_fX12_bit h) (fun σ33 v34 hσ33 => zpc_if (fun _ => fD_fX12_oldSprites_33 hσ33) (fun _ => fD_fX12_oldSprites_33 hσ33))
theorem fD_fX12_oldSprites {σ0 : zSt} {σ : zSt} {x1 : Int32} (h : (zQ [22, 23, 24, 25, 9] [(3, 62, 62)] [] []) σ0 σ) : zpc (fX12_oldSprites σ x1) (fun r => (zQ [22, 23, 24, 25, 9] [(3, 62, 62)] [] []) σ0 (r)) := by
  unfold fX12_oldSprites
  exact zpc_bi (fD_fX12_bit h) (fun σ35 v36 hσ35 => zpc_if (fun _ => fD_fX12_oldSprites_15 hσ35) (fun _ => fD_fX12_oldSprites_15 hσ35))
theorem fD_fX12_draws_302_body {σ0 : zSt} {k302 : zSt → Int32 → Int32 → Option (zSt)} (hk302 : ∀ (y0 : zSt) (y1 : Int32) (y2 : Int32), (zQ [22, 23, 24, 25, 9] [(3, 62, 62)] [] []) σ0 y0 → zpc (k302 y0 y1 y2) (fun r => (zQ [22, 23, 24, 25, 9] [(3, 62, 62)] [] []) σ0 (r))) {σ : zSt} {x1 : Int32} {x3 : Int32} (h : (zQ [22, 23, 24, 25, 9] [(3, 62, 62)] [] []) σ0 σ) : zpc (fX12_draws_302_body k302 σ x1 x3) (fun r => (zQ [22, 23, 24, 25, 9] [(3, 62, 62)] [] []) σ0 (r)) := by
  unfold fX12_draws_302_body
  exact zpc_if (fun _ => zpc_some h) (fun _ => zpc_ck (zpc_bi (fD_fX12_colour h) (fun σ1 v2 hσ1 => zpc_ck (zpc_bs (zQ.wi hσ1 rfl) (fun σ3 hσ3 => zpc_bv (fun v4 _ => hk302 _ _ _ hσ3))))))
theorem fD_fX12_draws_302 {σ0 : zSt} : ∀ (n : Nat) (y0 : zSt) (y1 : Int32) (y2 : Int32), (zQ [22, 23, 24, 25, 9] [(3, 62, 62)] [] []) σ0 y0 → zpc (fX12_draws_302 n y0 y1 y2) (fun r => (zQ [22, 23, 24, 25, 9] [(3, 62, 62)] [] []) σ0 (r)) := by
  intro n
  induction n with
  | zero => intro y0 y1 y2 h; exact zpc_none
  | succ n ih => intro y0 y1 y2 h; exact fD_fX12_draws_302_body ih h
theorem fD_fX12_draws_300 {σ0 : zSt} {σ : zSt} {x1 : Int32} (h : (zQ [22, 23, 24, 25, 9] [(3, 62, 62)] [] []) σ0 σ) : zpc (fX12_draws_300 σ x1) (fun r => (zQ [22, 23, 24, 25, 9] [(3, 62, 62)] [] []) σ0 (r)) := by
  unfold fX12_draws_300
  exact fD_fX12_draws_302 _ _ _ _ h
theorem fD_fX12_draws_244 {σ0 : zSt} {k213 : zSt → Int32 → Int32 → Int32 → Option (zSt)} (hk213 : ∀ (y0 : zSt) (y1 : Int32) (y2 : Int32) (y3 : Int32), (zQ [22, 23, 24, 25, 9] [(3, 62, 62)] [] []) σ0 y0 → zpc (k213 y0 y1 y2 y3) (fun r => (zQ [22, 23, 24, 25, 9] [(3, 62, 62)] [] []) σ0 (r))) {σ : zSt} {x1 : Int32} {x2 : Int32} {x3 : Int32} {s0 : Int32} {s1 : Int32} (h : (zQ [22, 23, 24, 25, 9] [(3, 62, 62)] [] []) σ0 σ) : zpc (fX12_draws_244 k213 σ x1 x2 x3 s0 s1) (fun r => (zQ [22, 23, 24, 25, 9] [(3, 62, 62)] [] []) σ0 (r)) := by
  unfold fX12_draws_244
  exact zpc_ck (zpc_bs (zQ.wi h rfl) (fun σ5 hσ5 => zpc_bv (fun v6 _ => hk213 _ _ _ _ hσ5)))
theorem fD_fX12_draws_294 {σ0 : zSt} {k266 : zSt → Int32 → Int32 → Option (zSt)} (hk266 : ∀ (y0 : zSt) (y1 : Int32) (y2 : Int32), (zQ [22, 23, 24, 25, 9] [(3, 62, 62)] [] []) σ0 y0 → zpc (k266 y0 y1 y2) (fun r => (zQ [22, 23, 24, 25, 9] [(3, 62, 62)] [] []) σ0 (r))) {σ : zSt} {x1 : Int32} {x3 : Int32} (h : (zQ [22, 23, 24, 25, 9] [(3, 62, 62)] [] []) σ0 σ) : zpc (fX12_draws_294 k266 σ x1 x3) (fun r => (zQ [22, 23, 24, 25, 9] [(3, 62, 62)] [] []) σ0 (r)) := by
  unfold fX12_draws_294
  exact zpc_bv (fun v7 _ => hk266 _ _ _ h)
theorem fD_fX12_draws_266_body {σ0 : zSt} {k266 : zSt → Int32 → Int32 → Option (zSt)} (hk266 : ∀ (y0 : zSt) (y1 : Int32) (y2 : Int32), (zQ [22, 23, 24, 25, 9] [(3, 62, 62)] [] []) σ0 y0 → zpc (k266 y0 y1 y2) (fun r => (zQ [22, 23, 24, 25, 9] [(3, 62, 62)] [] []) σ0 (r))) {σ : zSt} {x1 : Int32} {x3 : Int32} (h : (zQ [22, 23, 24, 25, 9] [(3, 62, 62)] [] []) σ0 σ) : zpc (fX12_draws_266_body k266 σ x1 x3) (fun r => (zQ [22, 23, 24, 25, 9] [(3, 62, 62)] [] []) σ0 (r)) := by
  unfold fX12_draws_266_body
  exact zpc_if (fun _ => fD_fX12_draws_300 h) (fun _ => zpc_ck (zpc_if (fun _ => fD_fX12_draws_294 hk266 h) (fun _ => zpc_ck (zpc_ck (zpc_bs (zQ.wi h rfl) (fun σ8 hσ8 => fD_fX12_draws_294 hk266 hσ8))))))
theorem fD_fX12_draws_266 {σ0 : zSt} : ∀ (n : Nat) (y0 : zSt) (y1 : Int32) (y2 : Int32), (zQ [22, 23, 24, 25, 9] [(3, 62, 62)] [] []) σ0 y0 → zpc (fX12_draws_266 n y0 y1 y2) (fun r => (zQ [22, 23, 24, 25, 9] [(3, 62, 62)] [] []) σ0 (r)) := by
  intro n
  induction n with
  | zero => intro y0 y1 y2 h; exact zpc_none
  | succ n ih => intro y0 y1 y2 h; exact fD_fX12_draws_266_body ih h
theorem fD_fX12_draws_264 {σ0 : zSt} {σ : zSt} {x1 : Int32} (h : (zQ [22, 23, 24, 25, 9] [(3, 62, 62)] [] []) σ0 σ) : zpc (fX12_draws_264 σ x1) (fun r => (zQ [22, 23, 24, 25, 9] [(3, 62, 62)] [] []) σ0 (r)) := by
  unfold fX12_draws_264
  exact fD_fX12_draws_266 _ _ _ _ h
theorem fD_fX12_draws_213_body {σ0 : zSt} {k213 : zSt → Int32 → Int32 → Int32 → Option (zSt)} (hk213 : ∀ (y0 : zSt) (y1 : Int32) (y2 : Int32) (y3 : Int32), (zQ [22, 23, 24, 25, 9] [(3, 62, 62)] [] []) σ0 y0 → zpc (k213 y0 y1 y2 y3) (fun r => (zQ [22, 23, 24, 25, 9] [(3, 62, 62)] [] []) σ0 (r))) {σ : zSt} {x1 : Int32} {x2 : Int32} {x3 : Int32} (h : (zQ [22, 23, 24, 25, 9] [(3, 62, 62)] [] []) σ0 σ) : zpc (fX12_draws_213_body k213 σ x1 x2 x3) (fun r => (zQ [22, 23, 24, 25, 9] [(3, 62, 62)] [] []) σ0 (r)) := by
  unfold fX12_draws_213_body
  exact zpc_if (fun _ => zpc_bi (fD_fX12_mode h) (fun σ9 v10 hσ9 => zpc_if (fun _ => fD_fX12_draws_264 hσ9) (fun _ => zpc_bu (fD_fX12_oldSprites hσ9) (fun σ11 hσ11 => fD_fX12_draws_264 hσ11)))) (fun _ => zpc_bi (fD_fX12_old h) (fun σ12 v13 hσ12 => zpc_if (fun _ => fD_fX12_draws_244 hk213 hσ12) (fun _ => fD_fX12_draws_244 hk213 hσ12)))
theorem fD_fX12_draws_213 {σ0 : zSt} : ∀ (n : Nat) (y0 : zSt) (y1 : Int32) (y2 : Int32) (y3 : Int32), (zQ [22, 23, 24, 25, 9] [(3, 62, 62)] [] []) σ0 y0 → zpc (fX12_draws_213 n y0 y1 y2 y3) (fun r => (zQ [22, 23, 24, 25, 9] [(3, 62, 62)] [] []) σ0 (r)) := by
  intro n
  induction n with
  | zero => intro y0 y1 y2 y3 h; exact zpc_none
  | succ n ih => intro y0 y1 y2 y3 h; exact fD_fX12_draws_213_body ih h
theorem fD_fX12_draws_200 {σ0 : zSt} {σ : zSt} {x1 : Int32} {x2 : Int32} (h : (zQ [22, 23, 24, 25, 9] [(3, 62, 62)] [] []) σ0 σ) : zpc (fX12_draws_200 σ x1 x2) (fun r => (zQ [22, 23, 24, 25, 9] [(3, 62, 62)] [] []) σ0 (r)) := by
  unfold fX12_draws_200
  exact zpc_bi (fD_fX12_bit h) (fun σ14 v15 hσ14 => zpc_if (fun _ => fD_fX12_draws_213 _ _ _ _ _ hσ14) (fun _ => fD_fX12_draws_300 hσ14))
theorem fD_fX12_draws_160 {σ0 : zSt} {k123 : zSt → Int32 → Int32 → Int32 → Option (zSt)} (hk123 : ∀ (y0 : zSt) (y1 : Int32) (y2 : Int32) (y3 : Int32), (zQ [22, 23, 24, 25, 9] [(3, 62, 62)] [] []) σ0 y0 → zpc (k123 y0 y1 y2 y3) (fun r => (zQ [22, 23, 24, 25, 9] [(3, 62, 62)] [] []) σ0 (r))) {σ : zSt} {x1 : Int32} {x2 : Int32} {x3 : Int32} (h : (zQ [22, 23, 24, 25, 9] [(3, 62, 62)] [] []) σ0 σ) : zpc (fX12_draws_160 k123 σ x1 x2 x3) (fun r => (zQ [22, 23, 24, 25, 9] [(3, 62, 62)] [] []) σ0 (r)) := by
  unfold fX12_draws_160
  exact zpc_bv (fun v16 _ => hk123 _ _ _ _ h)
theorem fD_fX12_draws_197 {σ0 : zSt} {σ : zSt} {x1 : Int32} (h : (zQ [22, 23, 24, 25, 9] [(3, 62, 62)] [] []) σ0 σ) : zpc (fX12_draws_197 σ x1) (fun r => (zQ [22, 23, 24, 25, 9] [(3, 62, 62)] [] []) σ0 (r)) := by
  unfold fX12_draws_197
  exact fD_fX12_draws_300 h
theorem fD_fX12_draws_168_body {σ0 : zSt} {k168 : zSt → Int32 → Int32 → Int32 → Option (zSt)} (hk168 : ∀ (y0 : zSt) (y1 : Int32) (y2 : Int32) (y3 : Int32), (zQ [22, 23, 24, 25, 9] [(3, 62, 62)] [] []) σ0 y0 → zpc (k168 y0 y1 y2 y3) (fun r => (zQ [22, 23, 24, 25, 9] [(3, 62, 62)] [] []) σ0 (r))) {σ : zSt} {x1 : Int32} {x2 : Int32} {x3 : Int32} (h : (zQ [22, 23, 24, 25, 9] [(3, 62, 62)] [] []) σ0 σ) : zpc (fX12_draws_168_body k168 σ x1 x2 x3) (fun r => (zQ [22, 23, 24, 25, 9] [(3, 62, 62)] [] []) σ0 (r)) := by
  unfold fX12_draws_168_body
  exact zpc_if (fun _ => fD_fX12_draws_197 h) (fun _ => zpc_bi (fD_fX12_bit h) (fun σ17 v18 hσ17 => zpc_if (fun _ => zpc_ck (zpc_bs (zQ.wi hσ17 rfl) (fun σ19 hσ19 => zpc_bv (fun v20 _ => hk168 _ _ _ _ hσ19)))) (fun _ => fD_fX12_draws_197 hσ17)))
theorem fD_fX12_draws_168 {σ0 : zSt} : ∀ (n : Nat) (y0 : zSt) (y1 : Int32) (y2 : Int32) (y3 : Int32), (zQ [22, 23, 24, 25, 9] [(3, 62, 62)] [] []) σ0 y0 → zpc (fX12_draws_168 n y0 y1 y2 y3) (fun r => (zQ [22, 23, 24, 25, 9] [(3, 62, 62)] [] []) σ0 (r)) := by
  intro n
  induction n with
  | zero => intro y0 y1 y2 y3 h; exact zpc_none
  | succ n ih => intro y0 y1 y2 y3 h; exact fD_fX12_draws_168_body ih h
theorem fD_fX12_draws_123_body {σ0 : zSt} {k123 : zSt → Int32 → Int32 → Int32 → Option (zSt)} (hk123 : ∀ (y0 : zSt) (y1 : Int32) (y2 : Int32) (y3 : Int32), (zQ [22, 23, 24, 25, 9] [(3, 62, 62)] [] []) σ0 y0 → zpc (k123 y0 y1 y2 y3) (fun r => (zQ [22, 23, 24, 25, 9] [(3, 62, 62)] [] []) σ0 (r))) {σ : zSt} {x1 : Int32} {x2 : Int32} {x3 : Int32} (h : (zQ [22, 23, 24, 25, 9] [(3, 62, 62)] [] []) σ0 σ) : zpc (fX12_draws_123_body k123 σ x1 x2 x3) (fun r => (zQ [22, 23, 24, 25, 9] [(3, 62, 62)] [] []) σ0 (r)) := by
  unfold fX12_draws_123_body
  exact zpc_if (fun _ => fD_fX12_draws_168 _ _ _ _ _ h) (fun _ => zpc_ck (zpc_if (fun _ => fD_fX12_draws_160 hk123 h) (fun _ => zpc_ck (zpc_if (fun _ => zpc_ck (zpc_ck (zpc_bs (zQ.wi h rfl) (fun σ21 hσ21 => fD_fX12_draws_160 hk123 hσ21)))) (fun _ => fD_fX12_draws_160 hk123 h)))))
theorem fD_fX12_draws_123 {σ0 : zSt} : ∀ (n : Nat) (y0 : zSt) (y1 : Int32) (y2 : Int32) (y3 : Int32), (zQ [22, 23, 24, 25, 9] [(3, 62, 62)] [] []) σ0 y0 → zpc (fX12_draws_123 n y0 y1 y2 y3) (fun r => (zQ [22, 23, 24, 25, 9] [(3, 62, 62)] [] []) σ0 (r)) := by
  intro n
  induction n with
  | zero => intro y0 y1 y2 y3 h; exact zpc_none
  | succ n ih => intro y0 y1 y2 y3 h; exact fD_fX12_draws_123_body ih h
theorem fD_fX12_draws_97_body {σ0 : zSt} {k97 : zSt → Int32 → Int32 → Int32 → Option (zSt)} (hk97 : ∀ (y0 : zSt) (y1 : Int32) (y2 : Int32) (y3 : Int32), (zQ [22, 23, 24, 25, 9] [(3, 62, 62)] [] []) σ0 y0 → zpc (k97 y0 y1 y2 y3) (fun r => (zQ [22, 23, 24, 25, 9] [(3, 62, 62)] [] []) σ0 (r))) {σ : zSt} {x1 : Int32} {x2 : Int32} {x3 : Int32} (h : (zQ [22, 23, 24, 25, 9] [(3, 62, 62)] [] []) σ0 σ) : zpc (fX12_draws_97_body k97 σ x1 x2 x3) (fun r => (zQ [22, 23, 24, 25, 9] [(3, 62, 62)] [] []) σ0 (r)) := by
  unfold fX12_draws_97_body
  exact zpc_if (fun _ => zpc_bu (fD_fX12_sprites h) (fun σ22 hσ22 => fD_fX12_draws_123 _ _ _ _ _ hσ22)) (fun _ => zpc_bu (fD_fX12_tile h) (fun σ23 hσ23 => zpc_bv (fun v24 _ => hk97 _ _ _ _ hσ23)))
theorem fD_fX12_draws_97 {σ0 : zSt} : ∀ (n : Nat) (y0 : zSt) (y1 : Int32) (y2 : Int32) (y3 : Int32), (zQ [22, 23, 24, 25, 9] [(3, 62, 62)] [] []) σ0 y0 → zpc (fX12_draws_97 n y0 y1 y2 y3) (fun r => (zQ [22, 23, 24, 25, 9] [(3, 62, 62)] [] []) σ0 (r)) := by
  intro n
  induction n with
  | zero => intro y0 y1 y2 y3 h; exact zpc_none
  | succ n ih => intro y0 y1 y2 y3 h; exact fD_fX12_draws_97_body ih h
theorem fD_fX12_draws_35_body {σ0 : zSt} {k35 : zSt → Int32 → Int32 → Int32 → Option (zSt)} (hk35 : ∀ (y0 : zSt) (y1 : Int32) (y2 : Int32) (y3 : Int32), (zQ [22, 23, 24, 25, 9] [(3, 62, 62)] [] []) σ0 y0 → zpc (k35 y0 y1 y2 y3) (fun r => (zQ [22, 23, 24, 25, 9] [(3, 62, 62)] [] []) σ0 (r))) {σ : zSt} {x1 : Int32} {x2 : Int32} {x3 : Int32} (h : (zQ [22, 23, 24, 25, 9] [(3, 62, 62)] [] []) σ0 σ) : zpc (fX12_draws_35_body k35 σ x1 x2 x3) (fun r => (zQ [22, 23, 24, 25, 9] [(3, 62, 62)] [] []) σ0 (r)) := by
  unfold fX12_draws_35_body
  exact zpc_if (fun _ => zpc_bi (fD_fX12_bit h) (fun σ25 v26 hσ25 => zpc_if (fun _ => zpc_bi (fD_fX12_mode hσ25) (fun σ27 v28 hσ27 => zpc_if (fun _ => fD_fX12_draws_97 _ _ _ _ _ hσ27) (fun _ => fD_fX12_draws_200 hσ27))) (fun _ => fD_fX12_draws_200 hσ25))) (fun _ => zpc_ck (zpc_bs (zQ.wi h rfl) (fun σ29 hσ29 => zpc_ck (zpc_bs (zQ.wi hσ29 rfl) (fun σ30 hσ30 => zpc_ck (zpc_bs (zQ.wi hσ30 rfl) (fun σ31 hσ31 => zpc_ck (zpc_bs (zQ.wi hσ31 rfl) (fun σ32 hσ32 => zpc_bv (fun v33 _ => hk35 _ _ _ _ hσ32))))))))))
theorem fD_fX12_draws_35 {σ0 : zSt} : ∀ (n : Nat) (y0 : zSt) (y1 : Int32) (y2 : Int32) (y3 : Int32), (zQ [22, 23, 24, 25, 9] [(3, 62, 62)] [] []) σ0 y0 → zpc (fX12_draws_35 n y0 y1 y2 y3) (fun r => (zQ [22, 23, 24, 25, 9] [(3, 62, 62)] [] []) σ0 (r)) := by
  intro n
  induction n with
  | zero => intro y0 y1 y2 y3 h; exact zpc_none
  | succ n ih => intro y0 y1 y2 y3 h; exact fD_fX12_draws_35_body ih h
theorem fD_fX12_draws_32 {σ0 : zSt} {σ : zSt} {x1 : Int32} {s0 : Int32} (h : (zQ [22, 23, 24, 25, 9] [(3, 62, 62)] [] []) σ0 σ) : zpc (fX12_draws_32 σ x1 s0) (fun r => (zQ [22, 23, 24, 25, 9] [(3, 62, 62)] [] []) σ0 (r)) := by
  unfold fX12_draws_32
  exact fD_fX12_draws_35 _ _ _ _ _ h
theorem fD_fX12_draws {σ0 : zSt} {σ : zSt} {x1 : Int32} (h : (zQ [22, 23, 24, 25, 9] [(3, 62, 62)] [] []) σ0 σ) : zpc (fX12_draws σ x1) (fun r => (zQ [22, 23, 24, 25, 9] [(3, 62, 62)] [] []) σ0 (r)) := by
  unfold fX12_draws
  exact zpc_bi (fD_fX12_mode h) (fun σ34 v35 hσ34 => zpc_if (fun _ => zpc_bi (fD_fX12_reg hσ34) (fun σ38 v39 hσ38 => zpc_ck (fD_fX12_draws_32 hσ38))) (fun _ => zpc_bi (fD_fX12_reg hσ34) (fun σ36 v37 hσ36 => zpc_ck (fD_fX12_draws_32 hσ36))))
end ZJN15
section ZJN16
theorem fW_fX12_loudness {σ0 : zSt} {σ : zSt} {x0 : Int32} (h : (zQ [] [(3, 69, 88), (3, 98, 170), (3, 172, 279)] [10, 11] [(4, 3, 4)]) σ0 σ) : zpc (fX12_loudness σ x0) (fun r => (zQ [] [(3, 69, 88), (3, 98, 170), (3, 172, 279)] [10, 11] [(4, 3, 4)]) σ0 (r.1)) := by
  unfold fX12_loudness
  exact zpc_if (fun _ => zpc_some h) (fun _ => zpc_if (fun _ => zpc_some h) (fun _ => zpc_if (fun _ => zpc_some h) (fun _ => zpc_if (fun _ => zpc_some h) (fun _ => zpc_if (fun _ => zpc_some h) (fun _ => zpc_if (fun _ => zpc_some h) (fun _ => zpc_if (fun _ => zpc_some h) (fun _ => zpc_if (fun _ => zpc_some h) (fun _ => zpc_if (fun _ => zpc_some h) (fun _ => zpc_if (fun _ => zpc_some h) (fun _ => zpc_if (fun _ => zpc_some h) (fun _ => zpc_if (fun _ => zpc_some h) (fun _ => zpc_if (fun _ => zpc_some h) (fun _ => zpc_if (fun _ => zpc_some h) (fun _ => zpc_if (fun _ => zpc_some h) (fun _ => zpc_some h)))))))))))))))
theorem fW_fX12_sample_102 {σ0 : zSt} {k2 : zSt → Int32 → Option (zSt)} (hk2 : ∀ (y0 : zSt) (y1 : Int32), (zQ [] [(3, 69, 88), (3, 98, 170), (3, 172, 279)] [10, 11] [(4, 3, 4)]) σ0 y0 → zr 0 3 y1 → zpc (k2 y0 y1) (fun r => (zQ [] [(3, 69, 88), (3, 98, 170), (3, 172, 279)] [10, 11] [(4, 3, 4)]) σ0 (r))) {σ : zSt} {x1 : Int32} (h : (zQ [] [(3, 69, 88), (3, 98, 170), (3, 172, 279)] [10, 11] [(4, 3, 4)]) σ0 σ) (qx1 : zr 0 2 x1) : zpc (fX12_sample_102 k2 σ x1) (fun r => (zQ [] [(3, 69, 88), (3, 98, 170), (3, 172, 279)] [10, 11] [(4, 3, 4)]) σ0 (r)) := by
  unfold fX12_sample_102
  exact zpc_bv (fun v1 ev1 => hk2 _ _ h (zr_w (show zr 1 3 v1 by rw [ev1]; exact (zr_add (lo := 1) (hi := 3) qx1 (zr_c (x := 1) (lo := 1) (hi := 1) (by decide)) (by decide))) (by decide)))
theorem fW_fX12_sample_101 {σ0 : zSt} {k2 : zSt → Int32 → Option (zSt)} (hk2 : ∀ (y0 : zSt) (y1 : Int32), (zQ [] [(3, 69, 88), (3, 98, 170), (3, 172, 279)] [10, 11] [(4, 3, 4)]) σ0 y0 → zr 0 3 y1 → zpc (k2 y0 y1) (fun r => (zQ [] [(3, 69, 88), (3, 98, 170), (3, 172, 279)] [10, 11] [(4, 3, 4)]) σ0 (r))) {σ : zSt} {x1 : Int32} {s0 : Int32} {s1 : Int32} (h : (zQ [] [(3, 69, 88), (3, 98, 170), (3, 172, 279)] [10, 11] [(4, 3, 4)]) σ0 σ) (qx1 : zr 0 2 x1) (qs1 : zr 69 86 s1) : zpc (fX12_sample_101 k2 σ x1 s0 s1) (fun r => (zQ [] [(3, 69, 88), (3, 98, 170), (3, 172, 279)] [10, 11] [(4, 3, 4)]) σ0 (r)) := by
  unfold fX12_sample_101
  exact zpc_ck (zpc_bs (zQ.wr (a := 69) (b := 88) (lo := 69) (hi := 86) h qs1 rfl (by decide)) (fun σ2 hσ2 => fW_fX12_sample_102 hk2 hσ2 qx1))
theorem fW_fX12_sample_32 {σ0 : zSt} {k2 : zSt → Int32 → Option (zSt)} (hk2 : ∀ (y0 : zSt) (y1 : Int32), (zQ [] [(3, 69, 88), (3, 98, 170), (3, 172, 279)] [10, 11] [(4, 3, 4)]) σ0 y0 → zr 0 3 y1 → zpc (k2 y0 y1) (fun r => (zQ [] [(3, 69, 88), (3, 98, 170), (3, 172, 279)] [10, 11] [(4, 3, 4)]) σ0 (r))) {σ : zSt} {x1 : Int32} (h : (zQ [] [(3, 69, 88), (3, 98, 170), (3, 172, 279)] [10, 11] [(4, 3, 4)]) σ0 σ) (qx1 : zr 0 2 x1) : zpc (fX12_sample_32 k2 σ x1) (fun r => (zQ [] [(3, 69, 88), (3, 98, 170), (3, 172, 279)] [10, 11] [(4, 3, 4)]) σ0 (r)) := by
  unfold fX12_sample_32
  exact zpc_ck (zpc_if (fun _ => zpc_ck (zpc_ck (zpc_bs (zQ.wr (a := 69) (b := 88) (lo := 72) (hi := 74) h (zr_add (lo := 72) (hi := 74) (zr_c (x := 72) (lo := 72) (hi := 72) (by decide)) qx1 (by decide)) rfl (by decide)) (fun σ3 hσ3 => zpc_ck (zpc_if (fun _ => zpc_ck (fW_fX12_sample_101 hk2 hσ3 qx1 (zr_w (zr_add (lo := 75) (hi := 77) (zr_c (x := 75) (lo := 75) (hi := 75) (by decide)) qx1 (by decide)) (by decide)))) (fun _ => fW_fX12_sample_101 hk2 hσ3 qx1 (zr_w (zr_add (lo := 75) (hi := 77) (zr_c (x := 75) (lo := 75) (hi := 75) (by decide)) qx1 (by decide)) (by decide)))))))) (fun _ => fW_fX12_sample_102 hk2 h qx1))
theorem fW_fX12_sample_407 {σ0 : zSt} {k275 : zSt → Int64 → Int64 → Int32 → Option (zSt)} (hk275 : ∀ (y0 : zSt) (y1 : Int64) (y2 : Int64) (y3 : Int32), (zQ [] [(3, 69, 88), (3, 98, 170), (3, 172, 279)] [10, 11] [(4, 3, 4)]) σ0 y0 → zpc (k275 y0 y1 y2 y3) (fun r => (zQ [] [(3, 69, 88), (3, 98, 170), (3, 172, 279)] [10, 11] [(4, 3, 4)]) σ0 (r))) {σ : zSt} {x1 : Int64} {x3 : Int64} {x5 : Int32} (h : (zQ [] [(3, 69, 88), (3, 98, 170), (3, 172, 279)] [10, 11] [(4, 3, 4)]) σ0 σ) : zpc (fX12_sample_407 k275 σ x1 x3 x5) (fun r => (zQ [] [(3, 69, 88), (3, 98, 170), (3, 172, 279)] [10, 11] [(4, 3, 4)]) σ0 (r)) := by
  unfold fX12_sample_407
  exact zpc_bv (fun v4 _ => hk275 _ _ _ _ h)
theorem fW_fX12_sample_369 {σ0 : zSt} {k275 : zSt → Int64 → Int64 → Int32 → Option (zSt)} (hk275 : ∀ (y0 : zSt) (y1 : Int64) (y2 : Int64) (y3 : Int32), (zQ [] [(3, 69, 88), (3, 98, 170), (3, 172, 279)] [10, 11] [(4, 3, 4)]) σ0 y0 → zpc (k275 y0 y1 y2 y3) (fun r => (zQ [] [(3, 69, 88), (3, 98, 170), (3, 172, 279)] [10, 11] [(4, 3, 4)]) σ0 (r))) {σ : zSt} {x1 : Int64} {x3 : Int64} {x5 : Int32} {x6 : Int32} (h : (zQ [] [(3, 69, 88), (3, 98, 170), (3, 172, 279)] [10, 11] [(4, 3, 4)]) σ0 σ) : zpc (fX12_sample_369 k275 σ x1 x3 x5 x6) (fun r => (zQ [] [(3, 69, 88), (3, 98, 170), (3, 172, 279)] [10, 11] [(4, 3, 4)]) σ0 (r)) := by
  unfold fX12_sample_369
  exact zpc_if (fun _ => fW_fX12_sample_407 hk275 h) (fun _ => zpc_ck (zpc_if (fun _ => zpc_ck (zpc_bi (fW_fX12_loudness h) (fun σ5 v6 hσ5 => zpc_bv (fun v7 _ => fW_fX12_sample_407 hk275 hσ5)))) (fun _ => fW_fX12_sample_407 hk275 h)))
theorem fW_fX12_sample_327 {σ0 : zSt} {k275 : zSt → Int64 → Int64 → Int32 → Option (zSt)} (hk275 : ∀ (y0 : zSt) (y1 : Int64) (y2 : Int64) (y3 : Int32), (zQ [] [(3, 69, 88), (3, 98, 170), (3, 172, 279)] [10, 11] [(4, 3, 4)]) σ0 y0 → zpc (k275 y0 y1 y2 y3) (fun r => (zQ [] [(3, 69, 88), (3, 98, 170), (3, 172, 279)] [10, 11] [(4, 3, 4)]) σ0 (r))) {σ : zSt} {x1 : Int64} {x3 : Int64} {x5 : Int32} {s0 : Int32} (h : (zQ [] [(3, 69, 88), (3, 98, 170), (3, 172, 279)] [10, 11] [(4, 3, 4)]) σ0 σ) : zpc (fX12_sample_327 k275 σ x1 x3 x5 s0) (fun r => (zQ [] [(3, 69, 88), (3, 98, 170), (3, 172, 279)] [10, 11] [(4, 3, 4)]) σ0 (r)) := by
  unfold fX12_sample_327
  exact zpc_if (fun _ => fW_fX12_sample_369 hk275 h) (fun _ => zpc_ck (zpc_if (fun _ => zpc_ck (zpc_bi (fW_fX12_loudness h) (fun σ8 v9 hσ8 => zpc_bv (fun v10 _ => fW_fX12_sample_369 hk275 hσ8)))) (fun _ => fW_fX12_sample_369 hk275 h)))
theorem fW_fX12_sample_508 {σ0 : zSt} {σ : zSt} {x1 : Int64} {x3 : Int64} (h : (zQ [] [(3, 69, 88), (3, 98, 170), (3, 172, 279)] [10, 11] [(4, 3, 4)]) σ0 σ) : zpc (fX12_sample_508 σ x1 x3) (fun r => (zQ [] [(3, 69, 88), (3, 98, 170), (3, 172, 279)] [10, 11] [(4, 3, 4)]) σ0 (r)) := by
  unfold fX12_sample_508
  exact zpc_ck (zpc_ck (zpc_ck (zpc_ck (zpc_bs (zQ.wl h rfl) (fun σ11 hσ11 => zpc_some hσ11)))))
theorem fW_fX12_sample_275_body {σ0 : zSt} {k275 : zSt → Int64 → Int64 → Int32 → Option (zSt)} (hk275 : ∀ (y0 : zSt) (y1 : Int64) (y2 : Int64) (y3 : Int32), (zQ [] [(3, 69, 88), (3, 98, 170), (3, 172, 279)] [10, 11] [(4, 3, 4)]) σ0 y0 → zpc (k275 y0 y1 y2 y3) (fun r => (zQ [] [(3, 69, 88), (3, 98, 170), (3, 172, 279)] [10, 11] [(4, 3, 4)]) σ0 (r))) {σ : zSt} {x1 : Int64} {x3 : Int64} {x5 : Int32} (h : (zQ [] [(3, 69, 88), (3, 98, 170), (3, 172, 279)] [10, 11] [(4, 3, 4)]) σ0 σ) : zpc (fX12_sample_275_body k275 σ x1 x3 x5) (fun r => (zQ [] [(3, 69, 88), (3, 98, 170), (3, 172, 279)] [10, 11] [(4, 3, 4)]) σ0 (r)) := by
  unfold fX12_sample_275_body
  exact zpc_if (fun _ => zpc_ck (zpc_ck (zpc_bs (zQ.wl h rfl) (fun σ12 hσ12 => zpc_ck (zpc_ck (zpc_bs (zQ.wi hσ12 rfl) (fun σ13 hσ13 => zpc_ck (zpc_ck (zpc_bs (zQ.wi hσ13 rfl) (fun σ14 hσ14 => zpc_ck (zpc_ck (zpc_bs (zQ.wi hσ14 rfl) (fun σ15 hσ15 => zpc_ck (zpc_if (fun _ => zpc_ck (zpc_ck (zpc_ck (zpc_bs (zQ.wi hσ15 rfl) (fun σ17 hσ17 => fW_fX12_sample_508 hσ17))))) (fun _ => zpc_ck (zpc_ck (zpc_bs (zQ.wi hσ15 rfl) (fun σ16 hσ16 => fW_fX12_sample_508 hσ16)))))))))))))))))) (fun _ => zpc_if (fun _ => zpc_ck (zpc_if (fun _ => fW_fX12_sample_327 hk275 h) (fun _ => fW_fX12_sample_327 hk275 h))) (fun _ => zpc_ck (zpc_if (fun _ => fW_fX12_sample_327 hk275 h) (fun _ => fW_fX12_sample_327 hk275 h))))
theorem fW_fX12_sample_275 {σ0 : zSt} : ∀ (n : Nat) (y0 : zSt) (y1 : Int64) (y2 : Int64) (y3 : Int32), (zQ [] [(3, 69, 88), (3, 98, 170), (3, 172, 279)] [10, 11] [(4, 3, 4)]) σ0 y0 → zpc (fX12_sample_275 n y0 y1 y2 y3) (fun r => (zQ [] [(3, 69, 88), (3, 98, 170), (3, 172, 279)] [10, 11] [(4, 3, 4)]) σ0 (r)) := by
  intro n
  induction n with
  | zero => intro y0 y1 y2 y3 h; exact zpc_none
  | succ n ih => intro y0 y1 y2 y3 h; exact fW_fX12_sample_275_body ih h
theorem fW_fX12_sample_268 {σ0 : zSt} {σ : zSt} (h : (zQ [] [(3, 69, 88), (3, 98, 170), (3, 172, 279)] [10, 11] [(4, 3, 4)]) σ0 σ) : zpc (fX12_sample_268 σ) (fun r => (zQ [] [(3, 69, 88), (3, 98, 170), (3, 172, 279)] [10, 11] [(4, 3, 4)]) σ0 (r)) := by
  unfold fX12_sample_268
  exact fW_fX12_sample_275 _ _ _ _ _ h
theorem fW_fX12_sample_246 {σ0 : zSt} {σ : zSt} {s0 : Int32} (h : (zQ [] [(3, 69, 88), (3, 98, 170), (3, 172, 279)] [10, 11] [(4, 3, 4)]) σ0 σ) : zpc (fX12_sample_246 σ s0) (fun r => (zQ [] [(3, 69, 88), (3, 98, 170), (3, 172, 279)] [10, 11] [(4, 3, 4)]) σ0 (r)) := by
  unfold fX12_sample_246
  exact zpc_ck (zpc_ck (zpc_bs (zQ.wi h rfl) (fun σ18 hσ18 => fW_fX12_sample_268 hσ18)))
theorem fW_fX12_sample_174 {σ0 : zSt} {σ : zSt} {s0 : Int32} {s1 : Int32} (h : (zQ [] [(3, 69, 88), (3, 98, 170), (3, 172, 279)] [10, 11] [(4, 3, 4)]) σ0 σ) (qs1 : zr 69 86 s1) : zpc (fX12_sample_174 σ s0 s1) (fun r => (zQ [] [(3, 69, 88), (3, 98, 170), (3, 172, 279)] [10, 11] [(4, 3, 4)]) σ0 (r)) := by
  unfold fX12_sample_174
  exact zpc_ck (zpc_bs (zQ.wr (a := 69) (b := 88) (lo := 69) (hi := 86) h qs1 rfl (by decide)) (fun σ19 hσ19 => zpc_ck (zpc_ck (zpc_bs (zQ.wi hσ19 rfl) (fun σ20 hσ20 => zpc_ck (zpc_if (fun _ => zpc_ck (zpc_if (fun _ => zpc_ck (zpc_ck (fW_fX12_sample_246 hσ20))) (fun _ => zpc_ck (fW_fX12_sample_246 hσ20)))) (fun _ => fW_fX12_sample_268 hσ20)))))))
theorem fW_fX12_sample_129 {σ0 : zSt} {σ : zSt} (h : (zQ [] [(3, 69, 88), (3, 98, 170), (3, 172, 279)] [10, 11] [(4, 3, 4)]) σ0 σ) : zpc (fX12_sample_129 σ) (fun r => (zQ [] [(3, 69, 88), (3, 98, 170), (3, 172, 279)] [10, 11] [(4, 3, 4)]) σ0 (r)) := by
  unfold fX12_sample_129
  exact zpc_ck (zpc_if (fun _ => zpc_ck (zpc_ck (zpc_bv (fun v21 _ => zpc_if (fun _ => zpc_ck (fW_fX12_sample_174 h (zr_w (zr_c (x := 83) (lo := 83) (hi := 83) (by decide)) (by decide)))) (fun _ => fW_fX12_sample_174 h (zr_w (zr_c (x := 83) (lo := 83) (hi := 83) (by decide)) (by decide))))))) (fun _ => fW_fX12_sample_268 h))
theorem fW_fX12_sample_2_body {σ0 : zSt} {k2 : zSt → Int32 → Option (zSt)} (hk2 : ∀ (y0 : zSt) (y1 : Int32), (zQ [] [(3, 69, 88), (3, 98, 170), (3, 172, 279)] [10, 11] [(4, 3, 4)]) σ0 y0 → zr 0 3 y1 → zpc (k2 y0 y1) (fun r => (zQ [] [(3, 69, 88), (3, 98, 170), (3, 172, 279)] [10, 11] [(4, 3, 4)]) σ0 (r))) {σ : zSt} {x1 : Int32} (h : (zQ [] [(3, 69, 88), (3, 98, 170), (3, 172, 279)] [10, 11] [(4, 3, 4)]) σ0 σ) (qx1 : zr 0 3 x1) : zpc (fX12_sample_2_body k2 σ x1) (fun r => (zQ [] [(3, 69, 88), (3, 98, 170), (3, 172, 279)] [10, 11] [(4, 3, 4)]) σ0 (r)) := by
  unfold fX12_sample_2_body
  exact zpc_if (fun g1 => zpc_ck (zpc_if (fun _ => fW_fX12_sample_129 h) (fun _ => zpc_ck (zpc_ck (zpc_bs (zQ.wi h rfl) (fun σ22 hσ22 => fW_fX12_sample_129 hσ22)))))) (fun g1 => zpc_ck (zpc_if (fun _ => fW_fX12_sample_32 hk2 h (zr_nge (k := 3) (m := 2) qx1 rfl g1 (by decide))) (fun _ => zpc_bv (fun v23 ev23 => zpc_ck (zpc_ck (zpc_bs (zQ.wr (a := 69) (b := 88) (lo := 72) (hi := 74) h (show zr 72 74 v23 by rw [ev23]; exact (zr_add (lo := 72) (hi := 74) (zr_c (x := 72) (lo := 72) (hi := 72) (by decide)) (zr_nge (k := 3) (m := 2) qx1 rfl g1 (by decide)) (by decide))) rfl (by decide)) (fun σ24 hσ24 => fW_fX12_sample_32 hk2 hσ24 (zr_nge (k := 3) (m := 2) qx1 rfl g1 (by decide)))))))))
theorem fW_fX12_sample_2 {σ0 : zSt} : ∀ (n : Nat) (y0 : zSt) (y1 : Int32), (zQ [] [(3, 69, 88), (3, 98, 170), (3, 172, 279)] [10, 11] [(4, 3, 4)]) σ0 y0 → zr 0 3 y1 → zpc (fX12_sample_2 n y0 y1) (fun r => (zQ [] [(3, 69, 88), (3, 98, 170), (3, 172, 279)] [10, 11] [(4, 3, 4)]) σ0 (r)) := by
  intro n
  induction n with
  | zero => intro y0 y1 h q1; exact zpc_none
  | succ n ih => intro y0 y1 h q1; exact fW_fX12_sample_2_body ih h q1
theorem fW_fX12_sample {σ0 : zSt} {σ : zSt} (h : (zQ [] [(3, 69, 88), (3, 98, 170), (3, 172, 279)] [10, 11] [(4, 3, 4)]) σ0 σ) : zpc (fX12_sample σ) (fun r => (zQ [] [(3, 69, 88), (3, 98, 170), (3, 172, 279)] [10, 11] [(4, 3, 4)]) σ0 (r)) := by
  unfold fX12_sample
  exact fW_fX12_sample_2 _ _ _ h (zr_w (zr_c (x := 0) (lo := 0) (hi := 0) (by decide)) (by decide))
theorem fW_fX12_wreg {σ0 : zSt} {σ : zSt} {x1 : Int32} (h : (zQ [] [(3, 69, 88), (3, 98, 170), (3, 172, 279)] [10, 11] [(4, 3, 4)]) σ0 σ) : zpc (fX12_wreg σ x1) (fun r => (zQ [] [(3, 69, 88), (3, 98, 170), (3, 172, 279)] [10, 11] [(4, 3, 4)]) σ0 (r.1)) := by
  unfold fX12_wreg
  exact zpc_ck (zpc_some h)
theorem fW_fX12_isRhythm_22 {σ0 : zSt} {σ : zSt} {s0 : Int32} (h : (zQ [] [(3, 69, 88), (3, 98, 170), (3, 172, 279)] [10, 11] [(4, 3, 4)]) σ0 σ) : zpc (fX12_isRhythm_22 σ s0) (fun r => (zQ [] [(3, 69, 88), (3, 98, 170), (3, 172, 279)] [10, 11] [(4, 3, 4)]) σ0 (r.1)) := by
  unfold fX12_isRhythm_22
  exact zpc_ck (zpc_some h)
theorem fW_fX12_isRhythm_21 {σ0 : zSt} {σ : zSt} (h : (zQ [] [(3, 69, 88), (3, 98, 170), (3, 172, 279)] [10, 11] [(4, 3, 4)]) σ0 σ) : zpc (fX12_isRhythm_21 σ) (fun r => (zQ [] [(3, 69, 88), (3, 98, 170), (3, 172, 279)] [10, 11] [(4, 3, 4)]) σ0 (r.1)) := by
  unfold fX12_isRhythm_21
  exact fW_fX12_isRhythm_22 h
theorem fW_fX12_isRhythm {σ0 : zSt} {σ : zSt} {x1 : Int32} (h : (zQ [] [(3, 69, 88), (3, 98, 170), (3, 172, 279)] [10, 11] [(4, 3, 4)]) σ0 σ) : zpc (fX12_isRhythm σ x1) (fun r => (zQ [] [(3, 69, 88), (3, 98, 170), (3, 172, 279)] [10, 11] [(4, 3, 4)]) σ0 (r.1)) := by
  unfold fX12_isRhythm
  exact zpc_if (fun _ => fW_fX12_isRhythm_21 h) (fun _ => zpc_bi (fW_fX12_wreg h) (fun σ1 v2 hσ1 => zpc_if (fun _ => fW_fX12_isRhythm_21 hσ1) (fun _ => fW_fX12_isRhythm_22 hσ1)))
theorem fW_fX12_isOn_60 {σ0 : zSt} {σ : zSt} {x3 : Int32} {s0 : Int32} (h : (zQ [] [(3, 69, 88), (3, 98, 170), (3, 172, 279)] [10, 11] [(4, 3, 4)]) σ0 σ) : zpc (fX12_isOn_60 σ x3 s0) (fun r => (zQ [] [(3, 69, 88), (3, 98, 170), (3, 172, 279)] [10, 11] [(4, 3, 4)]) σ0 (r.1)) := by
  unfold fX12_isOn_60
  exact zpc_bi (fW_fX12_wreg h) (fun σ1 v2 hσ1 => zpc_some hσ1)
theorem fW_fX12_isOn {σ0 : zSt} {σ : zSt} {x1 : Int32} {x2 : Int32} (h : (zQ [] [(3, 69, 88), (3, 98, 170), (3, 172, 279)] [10, 11] [(4, 3, 4)]) σ0 σ) : zpc (fX12_isOn σ x1 x2) (fun r => (zQ [] [(3, 69, 88), (3, 98, 170), (3, 172, 279)] [10, 11] [(4, 3, 4)]) σ0 (r.1)) := by
  unfold fX12_isOn
  exact zpc_bi (fW_fX12_wreg h) (fun σ3 v4 hσ3 => zpc_bv (fun v5 _ => zpc_bi (fW_fX12_isRhythm hσ3) (fun σ6 v7 hσ6 => zpc_if (fun _ => zpc_some hσ6) (fun _ => zpc_if (fun _ => fW_fX12_isOn_60 hσ6) (fun _ => zpc_if (fun _ => zpc_if (fun _ => fW_fX12_isOn_60 hσ6) (fun _ => fW_fX12_isOn_60 hσ6)) (fun _ => zpc_if (fun _ => fW_fX12_isOn_60 hσ6) (fun _ => fW_fX12_isOn_60 hσ6)))))))
theorem fW_fX12_digit_20 {σ0 : zSt} {σ : zSt} {s0 : Int32} (h : (zQ [] [(3, 69, 88), (3, 98, 170), (3, 172, 279)] [10, 11] [(4, 3, 4)]) σ0 σ) : zpc (fX12_digit_20 σ s0) (fun r => (zQ [] [(3, 69, 88), (3, 98, 170), (3, 172, 279)] [10, 11] [(4, 3, 4)]) σ0 (r.1)) := by
  unfold fX12_digit_20
  exact zpc_some h
theorem fW_fX12_digit {σ0 : zSt} {σ : zSt} {x0 : Int32} (h : (zQ [] [(3, 69, 88), (3, 98, 170), (3, 172, 279)] [10, 11] [(4, 3, 4)]) σ0 σ) : zpc (fX12_digit σ x0) (fun r => (zQ [] [(3, 69, 88), (3, 98, 170), (3, 172, 279)] [10, 11] [(4, 3, 4)]) σ0 (r.1)) := by
  unfold fX12_digit
  exact zpc_if (fun _ => fW_fX12_digit_20 h) (fun _ => fW_fX12_digit_20 h)
theorem fW_fX12_patchByte_25 {σ0 : zSt} {σ : zSt} {x2 : Int32} {s0 : Int32} (h : (zQ [] [(3, 69, 88), (3, 98, 170), (3, 172, 279)] [10, 11] [(4, 3, 4)]) σ0 σ) : zpc (fX12_patchByte_25 σ x2 s0) (fun r => (zQ [] [(3, 69, 88), (3, 98, 170), (3, 172, 279)] [10, 11] [(4, 3, 4)]) σ0 (r.1)) := by
  unfold fX12_patchByte_25
  exact zpc_if (fun _ => zpc_bi (fW_fX12_wreg h) (fun σ6 v7 hσ6 => zpc_some hσ6)) (fun _ => zpc_bv (fun v1 _ => zpc_ck (zpc_ck (zpc_bi (fW_fX12_digit h) (fun σ2 v3 hσ2 => zpc_ck (zpc_ck (zpc_bi (fW_fX12_digit hσ2) (fun σ4 v5 hσ4 => zpc_some hσ4))))))))
theorem fW_fX12_patchByte {σ0 : zSt} {σ : zSt} {x1 : Int32} {x2 : Int32} (h : (zQ [] [(3, 69, 88), (3, 98, 170), (3, 172, 279)] [10, 11] [(4, 3, 4)]) σ0 σ) : zpc (fX12_patchByte σ x1 x2) (fun r => (zQ [] [(3, 69, 88), (3, 98, 170), (3, 172, 279)] [10, 11] [(4, 3, 4)]) σ0 (r.1)) := by
  unfold fX12_patchByte
  exact zpc_bi (fW_fX12_isRhythm h) (fun σ8 v9 hσ8 => zpc_if (fun _ => zpc_bi (fW_fX12_wreg hσ8) (fun σ10 v11 hσ10 => fW_fX12_patchByte_25 hσ10)) (fun _ => fW_fX12_patchByte_25 hσ8))
theorem fW_fX12_rate_140 {σ0 : zSt} {σ : zSt} {s0 : Int32} (h : (zQ [] [(3, 69, 88), (3, 98, 170), (3, 172, 279)] [10, 11] [(4, 3, 4)]) σ0 σ) : zpc (fX12_rate_140 σ s0) (fun r => (zQ [] [(3, 69, 88), (3, 98, 170), (3, 172, 279)] [10, 11] [(4, 3, 4)]) σ0 (r.1)) := by
  unfold fX12_rate_140
  exact zpc_some h
theorem fW_fX12_rate_99 {σ0 : zSt} {σ : zSt} {s0 : Int32} (h : (zQ [] [(3, 69, 88), (3, 98, 170), (3, 172, 279)] [10, 11] [(4, 3, 4)]) σ0 σ) : zpc (fX12_rate_99 σ s0) (fun r => (zQ [] [(3, 69, 88), (3, 98, 170), (3, 172, 279)] [10, 11] [(4, 3, 4)]) σ0 (r.1)) := by
  unfold fX12_rate_99
  exact zpc_some h
theorem fW_fX12_rate_17 {σ0 : zSt} {σ : zSt} {x1 : Int32} {x2 : Int32} {x3 : Int32} {s0 : Int32} (h : (zQ [] [(3, 69, 88), (3, 98, 170), (3, 172, 279)] [10, 11] [(4, 3, 4)]) σ0 σ) : zpc (fX12_rate_17 σ x1 x2 x3 s0) (fun r => (zQ [] [(3, 69, 88), (3, 98, 170), (3, 172, 279)] [10, 11] [(4, 3, 4)]) σ0 (r.1)) := by
  unfold fX12_rate_17
  exact zpc_if (fun _ => zpc_some h) (fun _ => zpc_if (fun _ => zpc_bi (fW_fX12_patchByte h) (fun σ1 v2 hσ1 => zpc_some hσ1)) (fun _ => zpc_if (fun _ => zpc_bi (fW_fX12_patchByte h) (fun σ3 v4 hσ3 => zpc_some hσ3)) (fun _ => zpc_if (fun _ => zpc_if (fun _ => zpc_bi (fW_fX12_patchByte h) (fun σ5 v6 hσ5 => fW_fX12_rate_99 hσ5)) (fun _ => fW_fX12_rate_99 h)) (fun _ => zpc_bi (fW_fX12_wreg h) (fun σ7 v8 hσ7 => zpc_if (fun _ => zpc_if (fun _ => fW_fX12_rate_140 hσ7) (fun _ => zpc_bi (fW_fX12_patchByte hσ7) (fun σ9 v10 hσ9 => fW_fX12_rate_140 hσ9))) (fun _ => fW_fX12_rate_140 hσ7))))))
theorem fW_fX12_rate {σ0 : zSt} {σ : zSt} {x1 : Int32} {x2 : Int32} {x3 : Int32} (h : (zQ [] [(3, 69, 88), (3, 98, 170), (3, 172, 279)] [10, 11] [(4, 3, 4)]) σ0 σ) : zpc (fX12_rate σ x1 x2 x3) (fun r => (zQ [] [(3, 69, 88), (3, 98, 170), (3, 172, 279)] [10, 11] [(4, 3, 4)]) σ0 (r.1)) := by
  unfold fX12_rate
  exact zpc_bi (fW_fX12_patchByte h) (fun σ11 v12 hσ11 => zpc_if (fun _ => fW_fX12_rate_17 hσ11) (fun _ => fW_fX12_rate_17 hσ11))
theorem fW_fX12_block {σ0 : zSt} {σ : zSt} {x1 : Int32} (h : (zQ [] [(3, 69, 88), (3, 98, 170), (3, 172, 279)] [10, 11] [(4, 3, 4)]) σ0 σ) : zpc (fX12_block σ x1) (fun r => (zQ [] [(3, 69, 88), (3, 98, 170), (3, 172, 279)] [10, 11] [(4, 3, 4)]) σ0 (r.1)) := by
  unfold fX12_block
  exact zpc_bi (fW_fX12_wreg h) (fun σ1 v2 hσ1 => zpc_some hσ1)
theorem fW_fX12_f {σ0 : zSt} {σ : zSt} {x1 : Int32} (h : (zQ [] [(3, 69, 88), (3, 98, 170), (3, 172, 279)] [10, 11] [(4, 3, 4)]) σ0 σ) : zpc (fX12_f σ x1) (fun r => (zQ [] [(3, 69, 88), (3, 98, 170), (3, 172, 279)] [10, 11] [(4, 3, 4)]) σ0 (r.1)) := by
  unfold fX12_f
  exact zpc_bi (fW_fX12_wreg h) (fun σ1 v2 hσ1 => zpc_bi (fW_fX12_wreg hσ1) (fun σ3 v4 hσ3 => zpc_some hσ3))
theorem fW_fX12_t_40 {σ0 : zSt} {σ : zSt} {s0 : Int32} (h : (zQ [] [(3, 69, 88), (3, 98, 170), (3, 172, 279)] [10, 11] [(4, 3, 4)]) σ0 σ) : zpc (fX12_t_40 σ s0) (fun r => (zQ [] [(3, 69, 88), (3, 98, 170), (3, 172, 279)] [10, 11] [(4, 3, 4)]) σ0 (r.1)) := by
  unfold fX12_t_40
  exact zpc_some h
theorem fW_fX12_t_35 {σ0 : zSt} {σ : zSt} (h : (zQ [] [(3, 69, 88), (3, 98, 170), (3, 172, 279)] [10, 11] [(4, 3, 4)]) σ0 σ) : zpc (fX12_t_35 σ) (fun r => (zQ [] [(3, 69, 88), (3, 98, 170), (3, 172, 279)] [10, 11] [(4, 3, 4)]) σ0 (r.1)) := by
  unfold fX12_t_35
  exact fW_fX12_t_40 h
theorem fW_fX12_t_39 {σ0 : zSt} {σ : zSt} (h : (zQ [] [(3, 69, 88), (3, 98, 170), (3, 172, 279)] [10, 11] [(4, 3, 4)]) σ0 σ) : zpc (fX12_t_39 σ) (fun r => (zQ [] [(3, 69, 88), (3, 98, 170), (3, 172, 279)] [10, 11] [(4, 3, 4)]) σ0 (r.1)) := by
  unfold fX12_t_39
  exact fW_fX12_t_40 h
theorem fW_fX12_t_19 {σ0 : zSt} {σ : zSt} {x0 : Int32} {x1 : Int32} (h : (zQ [] [(3, 69, 88), (3, 98, 170), (3, 172, 279)] [10, 11] [(4, 3, 4)]) σ0 σ) : zpc (fX12_t_19 σ x0 x1) (fun r => (zQ [] [(3, 69, 88), (3, 98, 170), (3, 172, 279)] [10, 11] [(4, 3, 4)]) σ0 (r.1)) := by
  unfold fX12_t_19
  exact zpc_if (fun _ => fW_fX12_t_39 h) (fun _ => zpc_if (fun _ => fW_fX12_t_35 h) (fun _ => zpc_if (fun _ => fW_fX12_t_35 h) (fun _ => fW_fX12_t_39 h)))
theorem fW_fX12_t {σ0 : zSt} {σ : zSt} {x0 : Int32} {x1 : Int32} (h : (zQ [] [(3, 69, 88), (3, 98, 170), (3, 172, 279)] [10, 11] [(4, 3, 4)]) σ0 σ) : zpc (fX12_t σ x0 x1) (fun r => (zQ [] [(3, 69, 88), (3, 98, 170), (3, 172, 279)] [10, 11] [(4, 3, 4)]) σ0 (r.1)) := by
  unfold fX12_t
  exact zpc_ck (zpc_if (fun _ => fW_fX12_t_35 h) (fun _ => zpc_ck (zpc_if (fun _ => zpc_if (fun _ => fW_fX12_t_35 h) (fun _ => fW_fX12_t_19 h)) (fun _ => fW_fX12_t_19 h))))
theorem fW_fX12_envelope_275 {σ0 : zSt} {σ : zSt} {s0 : Int32} {s1 : Int32} (h : (zQ [] [(3, 69, 88), (3, 98, 170), (3, 172, 279)] [10, 11] [(4, 3, 4)]) σ0 σ) (qs1 : zr 172 274 s1) : zpc (fX12_envelope_275 σ s0 s1) (fun r => (zQ [] [(3, 69, 88), (3, 98, 170), (3, 172, 279)] [10, 11] [(4, 3, 4)]) σ0 (r)) := by
  unfold fX12_envelope_275
  exact zpc_ck (zpc_bs (zQ.wr (a := 172) (b := 279) (lo := 172) (hi := 274) h qs1 rfl (by decide)) (fun σ1 hσ1 => zpc_some hσ1))
theorem fW_fX12_envelope_259 {σ0 : zSt} {σ : zSt} {x1 : Int32} {x15 : Int32} (h : (zQ [] [(3, 69, 88), (3, 98, 170), (3, 172, 279)] [10, 11] [(4, 3, 4)]) σ0 σ) (qx1 : zr 172 274 x1) : zpc (fX12_envelope_259 σ x1 x15) (fun r => (zQ [] [(3, 69, 88), (3, 98, 170), (3, 172, 279)] [10, 11] [(4, 3, 4)]) σ0 (r)) := by
  unfold fX12_envelope_259
  exact zpc_if (fun _ => fW_fX12_envelope_275 h qx1) (fun _ => fW_fX12_envelope_275 h qx1)
theorem fW_fX12_envelope_220 {σ0 : zSt} {σ : zSt} {x1 : Int32} {s0 : Int32} (h : (zQ [] [(3, 69, 88), (3, 98, 170), (3, 172, 279)] [10, 11] [(4, 3, 4)]) σ0 σ) (qx1 : zr 172 274 x1) : zpc (fX12_envelope_220 σ x1 s0) (fun r => (zQ [] [(3, 69, 88), (3, 98, 170), (3, 172, 279)] [10, 11] [(4, 3, 4)]) σ0 (r)) := by
  unfold fX12_envelope_220
  exact fW_fX12_envelope_259 h qx1
theorem fW_fX12_envelope_257 {σ0 : zSt} {σ : zSt} {x1 : Int32} {s0 : Int32} (h : (zQ [] [(3, 69, 88), (3, 98, 170), (3, 172, 279)] [10, 11] [(4, 3, 4)]) σ0 σ) (qx1 : zr 172 274 x1) : zpc (fX12_envelope_257 σ x1 s0) (fun r => (zQ [] [(3, 69, 88), (3, 98, 170), (3, 172, 279)] [10, 11] [(4, 3, 4)]) σ0 (r)) := by
  unfold fX12_envelope_257
  exact fW_fX12_envelope_259 h qx1
theorem fW_fX12_envelope_358 {σ0 : zSt} {σ : zSt} {s0 : Int32} {s1 : Int32} (h : (zQ [] [(3, 69, 88), (3, 98, 170), (3, 172, 279)] [10, 11] [(4, 3, 4)]) σ0 σ) (qs1 : zr 172 274 s1) : zpc (fX12_envelope_358 σ s0 s1) (fun r => (zQ [] [(3, 69, 88), (3, 98, 170), (3, 172, 279)] [10, 11] [(4, 3, 4)]) σ0 (r)) := by
  unfold fX12_envelope_358
  exact zpc_ck (zpc_bs (zQ.wr (a := 172) (b := 279) (lo := 172) (hi := 274) h qs1 rfl (by decide)) (fun σ2 hσ2 => zpc_some hσ2))
theorem fW_fX12_envelope_336 {σ0 : zSt} {σ : zSt} {x1 : Int32} {s0 : Int32} {s1 : Int32} (h : (zQ [] [(3, 69, 88), (3, 98, 170), (3, 172, 279)] [10, 11] [(4, 3, 4)]) σ0 σ) (qx1 : zr 172 274 x1) : zpc (fX12_envelope_336 σ x1 s0 s1) (fun r => (zQ [] [(3, 69, 88), (3, 98, 170), (3, 172, 279)] [10, 11] [(4, 3, 4)]) σ0 (r)) := by
  unfold fX12_envelope_336
  exact zpc_bv (fun v3 _ => zpc_if (fun _ => fW_fX12_envelope_358 h qx1) (fun _ => fW_fX12_envelope_358 h qx1))
theorem fW_fX12_envelope_159 {σ0 : zSt} {σ : zSt} {x1 : Int32} {x4 : Int32} {x7 : Int32} {x8 : Int32} {x9 : Int64} {s0 : Int32} (h : (zQ [] [(3, 69, 88), (3, 98, 170), (3, 172, 279)] [10, 11] [(4, 3, 4)]) σ0 σ) (qx1 : zr 172 274 x1) : zpc (fX12_envelope_159 σ x1 x4 x7 x8 x9 s0) (fun r => (zQ [] [(3, 69, 88), (3, 98, 170), (3, 172, 279)] [10, 11] [(4, 3, 4)]) σ0 (r)) := by
  unfold fX12_envelope_159
  exact zpc_ck (zpc_ck (zpc_bv (fun v4 _ => zpc_ck (zpc_bv (fun v5 _ => zpc_if (fun _ => zpc_if (fun _ => zpc_if (fun _ => fW_fX12_envelope_257 h qx1) (fun _ => zpc_bi (fW_fX12_t h) (fun σ10 v11 hσ10 => fW_fX12_envelope_257 hσ10 qx1))) (fun _ => zpc_if (fun _ => zpc_ck (fW_fX12_envelope_220 h qx1)) (fun _ => fW_fX12_envelope_220 h qx1))) (fun _ => zpc_if (fun _ => zpc_if (fun _ => zpc_ck (zpc_bi (fW_fX12_t h) (fun σ8 v9 hσ8 => fW_fX12_envelope_336 hσ8 qx1))) (fun _ => zpc_if (fun _ => zpc_bi (fW_fX12_t h) (fun σ6 v7 hσ6 => fW_fX12_envelope_336 hσ6 qx1)) (fun _ => fW_fX12_envelope_336 h qx1))) (fun _ => fW_fX12_envelope_336 h qx1)))))))
theorem fW_fX12_envelope_158 {σ0 : zSt} {σ : zSt} {x1 : Int32} {x4 : Int32} {x7 : Int32} {x8 : Int32} {x9 : Int64} (h : (zQ [] [(3, 69, 88), (3, 98, 170), (3, 172, 279)] [10, 11] [(4, 3, 4)]) σ0 σ) (qx1 : zr 172 274 x1) : zpc (fX12_envelope_158 σ x1 x4 x7 x8 x9) (fun r => (zQ [] [(3, 69, 88), (3, 98, 170), (3, 172, 279)] [10, 11] [(4, 3, 4)]) σ0 (r)) := by
  unfold fX12_envelope_158
  exact fW_fX12_envelope_159 h qx1
theorem fW_fX12_envelope_121 {σ0 : zSt} {σ : zSt} {x1 : Int32} {x4 : Int32} {x7 : Int32} {x8 : Int32} {x9 : Int64} {s0 : Int64} (h : (zQ [] [(3, 69, 88), (3, 98, 170), (3, 172, 279)] [10, 11] [(4, 3, 4)]) σ0 σ) (qx1 : zr 172 274 x1) : zpc (fX12_envelope_121 σ x1 x4 x7 x8 x9 s0) (fun r => (zQ [] [(3, 69, 88), (3, 98, 170), (3, 172, 279)] [10, 11] [(4, 3, 4)]) σ0 (r)) := by
  unfold fX12_envelope_121
  exact zpc_if (fun _ => fW_fX12_envelope_158 h qx1) (fun _ => zpc_ck (zpc_if (fun _ => zpc_ck (zpc_ck (zpc_bi (fW_fX12_t h) (fun σ12 v13 hσ12 => fW_fX12_envelope_159 hσ12 qx1)))) (fun _ => fW_fX12_envelope_158 h qx1)))
theorem fW_fX12_envelope_87 {σ0 : zSt} {σ : zSt} {x1 : Int32} {x4 : Int32} {x6 : Int32} {s0 : Int32} (h : (zQ [] [(3, 69, 88), (3, 98, 170), (3, 172, 279)] [10, 11] [(4, 3, 4)]) σ0 σ) (qx1 : zr 172 274 x1) : zpc (fX12_envelope_87 σ x1 x4 x6 s0) (fun r => (zQ [] [(3, 69, 88), (3, 98, 170), (3, 172, 279)] [10, 11] [(4, 3, 4)]) σ0 (r)) := by
  unfold fX12_envelope_87
  exact zpc_ck (zpc_bv (fun v14 _ => zpc_ck (zpc_bv (fun v15 _ => zpc_if (fun _ => fW_fX12_envelope_121 h qx1) (fun _ => fW_fX12_envelope_121 h qx1)))))
theorem fW_fX12_envelope_63 {σ0 : zSt} {σ : zSt} {x1 : Int32} {x4 : Int32} {x5 : Int32} {x6 : Int32} (h : (zQ [] [(3, 69, 88), (3, 98, 170), (3, 172, 279)] [10, 11] [(4, 3, 4)]) σ0 σ) (qx1 : zr 172 274 x1) : zpc (fX12_envelope_63 σ x1 x4 x5 x6) (fun r => (zQ [] [(3, 69, 88), (3, 98, 170), (3, 172, 279)] [10, 11] [(4, 3, 4)]) σ0 (r)) := by
  unfold fX12_envelope_63
  exact zpc_ck (zpc_if (fun _ => zpc_ck (fW_fX12_envelope_87 h qx1)) (fun _ => fW_fX12_envelope_87 h qx1))
theorem fW_fX12_envelope {σ0 : zSt} {σ : zSt} {x1 : Int32} {x2 : Int32} {x3 : Int32} (h : (zQ [] [(3, 69, 88), (3, 98, 170), (3, 172, 279)] [10, 11] [(4, 3, 4)]) σ0 σ) (qx1 : zr 172 274 x1) : zpc (fX12_envelope σ x1 x2 x3) (fun r => (zQ [] [(3, 69, 88), (3, 98, 170), (3, 172, 279)] [10, 11] [(4, 3, 4)]) σ0 (r)) := by
  unfold fX12_envelope
  exact zpc_ck (zpc_bv (fun v16 _ => zpc_bi (fW_fX12_rate h) (fun σ17 v18 hσ17 => zpc_if (fun _ => zpc_some hσ17) (fun _ => zpc_bi (fW_fX12_block hσ17) (fun σ19 v20 hσ19 => zpc_bi (fW_fX12_f hσ19) (fun σ21 v22 hσ21 => zpc_ck (zpc_bv (fun v23 _ => zpc_bi (fW_fX12_patchByte hσ21) (fun σ24 v25 hσ24 => zpc_if (fun _ => zpc_ck (zpc_bv (fun v26 _ => fW_fX12_envelope_63 hσ24 qx1))) (fun _ => fW_fX12_envelope_63 hσ24 qx1))))))))))
theorem fW_fX12_phase_150 {σ0 : zSt} {σ : zSt} {x1 : Int32} {x2 : Int32} {x5 : Int32} {x6 : Int32} (h : (zQ [] [(3, 69, 88), (3, 98, 170), (3, 172, 279)] [10, 11] [(4, 3, 4)]) σ0 σ) (qx1 : zr 172 274 x1) : zpc (fX12_phase_150 σ x1 x2 x5 x6) (fun r => (zQ [] [(3, 69, 88), (3, 98, 170), (3, 172, 279)] [10, 11] [(4, 3, 4)]) σ0 (r)) := by
  unfold fX12_phase_150
  exact zpc_ck (zpc_bi (fW_fX12_f h) (fun σ1 v2 hσ1 => zpc_bi (fW_fX12_block hσ1) (fun σ3 v4 hσ3 => zpc_ck (zpc_ck (zpc_bs (zQ.wr (a := 172) (b := 279) (lo := 174) (hi := 276) hσ3 (zr_add (lo := 174) (hi := 276) qx1 (zr_c (x := 2) (lo := 2) (hi := 2) (by decide)) (by decide)) rfl (by decide)) (fun σ5 hσ5 => zpc_some hσ5))))))
theorem fW_fX12_phase_148 {σ0 : zSt} {σ : zSt} {x1 : Int32} {x2 : Int32} {x5 : Int32} {s0 : Int32} (h : (zQ [] [(3, 69, 88), (3, 98, 170), (3, 172, 279)] [10, 11] [(4, 3, 4)]) σ0 σ) (qx1 : zr 172 274 x1) : zpc (fX12_phase_148 σ x1 x2 x5 s0) (fun r => (zQ [] [(3, 69, 88), (3, 98, 170), (3, 172, 279)] [10, 11] [(4, 3, 4)]) σ0 (r)) := by
  unfold fX12_phase_148
  exact fW_fX12_phase_150 h qx1
theorem fW_fX12_phase_132 {σ0 : zSt} {σ : zSt} {x1 : Int32} {x2 : Int32} {x5 : Int32} {x7 : Int32} {s0 : Int32} (h : (zQ [] [(3, 69, 88), (3, 98, 170), (3, 172, 279)] [10, 11] [(4, 3, 4)]) σ0 σ) (qx1 : zr 172 274 x1) : zpc (fX12_phase_132 σ x1 x2 x5 x7 s0) (fun r => (zQ [] [(3, 69, 88), (3, 98, 170), (3, 172, 279)] [10, 11] [(4, 3, 4)]) σ0 (r)) := by
  unfold fX12_phase_132
  exact zpc_if (fun _ => fW_fX12_phase_148 h qx1) (fun _ => fW_fX12_phase_148 h qx1)
theorem fW_fX12_phase_60 {σ0 : zSt} {σ : zSt} {x1 : Int32} {x2 : Int32} {x3 : Int32} {s0 : Int32} (h : (zQ [] [(3, 69, 88), (3, 98, 170), (3, 172, 279)] [10, 11] [(4, 3, 4)]) σ0 σ) (qx1 : zr 172 274 x1) : zpc (fX12_phase_60 σ x1 x2 x3 s0) (fun r => (zQ [] [(3, 69, 88), (3, 98, 170), (3, 172, 279)] [10, 11] [(4, 3, 4)]) σ0 (r)) := by
  unfold fX12_phase_60
  exact zpc_bi (fW_fX12_patchByte h) (fun σ6 v7 hσ6 => zpc_if (fun _ => fW_fX12_phase_150 hσ6 qx1) (fun _ => zpc_ck (zpc_ck (zpc_ck (zpc_bv (fun v8 _ => zpc_bi (fW_fX12_f hσ6) (fun σ9 v10 hσ9 => zpc_ck (zpc_bv (fun v11 _ => zpc_ck (zpc_if (fun _ => fW_fX12_phase_132 hσ9 qx1) (fun _ => zpc_ck (zpc_if (fun _ => fW_fX12_phase_132 hσ9 qx1) (fun _ => zpc_ck (fW_fX12_phase_132 hσ9 qx1))))))))))))))
theorem fW_fX12_phase {σ0 : zSt} {σ : zSt} {x1 : Int32} {x2 : Int32} {x3 : Int32} (h : (zQ [] [(3, 69, 88), (3, 98, 170), (3, 172, 279)] [10, 11] [(4, 3, 4)]) σ0 σ) (qx1 : zr 172 274 x1) : zpc (fX12_phase σ x1 x2 x3) (fun r => (zQ [] [(3, 69, 88), (3, 98, 170), (3, 172, 279)] [10, 11] [(4, 3, 4)]) σ0 (r)) := by
  unfold fX12_phase
  exact zpc_bi (fW_fX12_patchByte h) (fun σ12 v13 hσ12 => zpc_bv (fun v14 _ => zpc_if (fun _ => fW_fX12_phase_60 hσ12 qx1) (fun _ => zpc_if (fun _ => zpc_if (fun _ => fW_fX12_phase_60 hσ12 qx1) (fun _ => zpc_if (fun _ => fW_fX12_phase_60 hσ12 qx1) (fun _ => fW_fX12_phase_60 hσ12 qx1))) (fun _ => fW_fX12_phase_60 hσ12 qx1))))
theorem fW_fX12_drum_191 {σ0 : zSt} {σ : zSt} {s0 : Int32} (h : (zQ [] [(3, 69, 88), (3, 98, 170), (3, 172, 279)] [10, 11] [(4, 3, 4)]) σ0 σ) : zpc (fX12_drum_191 σ s0) (fun r => (zQ [] [(3, 69, 88), (3, 98, 170), (3, 172, 279)] [10, 11] [(4, 3, 4)]) σ0 (r.1)) := by
  unfold fX12_drum_191
  exact zpc_some h
theorem fW_fX12_drum_214 {σ0 : zSt} {σ : zSt} {s0 : Int32} (h : (zQ [] [(3, 69, 88), (3, 98, 170), (3, 172, 279)] [10, 11] [(4, 3, 4)]) σ0 σ) : zpc (fX12_drum_214 σ s0) (fun r => (zQ [] [(3, 69, 88), (3, 98, 170), (3, 172, 279)] [10, 11] [(4, 3, 4)]) σ0 (r.1)) := by
  unfold fX12_drum_214
  exact zpc_some h
theorem fW_fX12_drum_148 {σ0 : zSt} {σ : zSt} {x1 : Int32} {x2 : Int32} {x3 : Int32} {x6 : Int32} {x7 : Int32} (h : (zQ [] [(3, 69, 88), (3, 98, 170), (3, 172, 279)] [10, 11] [(4, 3, 4)]) σ0 σ) : zpc (fX12_drum_148 σ x1 x2 x3 x6 x7) (fun r => (zQ [] [(3, 69, 88), (3, 98, 170), (3, 172, 279)] [10, 11] [(4, 3, 4)]) σ0 (r.1)) := by
  unfold fX12_drum_148
  exact zpc_if (fun _ => zpc_if (fun _ => zpc_if (fun _ => fW_fX12_drum_191 h) (fun _ => fW_fX12_drum_191 h)) (fun _ => zpc_if (fun _ => fW_fX12_drum_191 h) (fun _ => fW_fX12_drum_191 h))) (fun _ => zpc_if (fun _ => fW_fX12_drum_214 h) (fun _ => zpc_if (fun _ => fW_fX12_drum_214 h) (fun _ => fW_fX12_drum_214 h)))
theorem fW_fX12_drum_147 {σ0 : zSt} {σ : zSt} {s0 : Int32} (h : (zQ [] [(3, 69, 88), (3, 98, 170), (3, 172, 279)] [10, 11] [(4, 3, 4)]) σ0 σ) : zpc (fX12_drum_147 σ s0) (fun r => (zQ [] [(3, 69, 88), (3, 98, 170), (3, 172, 279)] [10, 11] [(4, 3, 4)]) σ0 (r.1)) := by
  unfold fX12_drum_147
  exact zpc_some h
theorem fW_fX12_drum_100 {σ0 : zSt} {σ : zSt} {x1 : Int32} {x2 : Int32} {x3 : Int32} {x6 : Int32} {s0 : Int32} (h : (zQ [] [(3, 69, 88), (3, 98, 170), (3, 172, 279)] [10, 11] [(4, 3, 4)]) σ0 σ) : zpc (fX12_drum_100 σ x1 x2 x3 x6 s0) (fun r => (zQ [] [(3, 69, 88), (3, 98, 170), (3, 172, 279)] [10, 11] [(4, 3, 4)]) σ0 (r.1)) := by
  unfold fX12_drum_100
  exact zpc_if (fun _ => zpc_if (fun _ => zpc_if (fun _ => zpc_if (fun _ => fW_fX12_drum_147 h) (fun _ => fW_fX12_drum_147 h)) (fun _ => zpc_if (fun _ => fW_fX12_drum_147 h) (fun _ => fW_fX12_drum_147 h))) (fun _ => fW_fX12_drum_148 h)) (fun _ => fW_fX12_drum_148 h)
theorem fW_fX12_drum_79 {σ0 : zSt} {σ : zSt} {x1 : Int32} {x2 : Int32} {x3 : Int32} {s0 : Int32} (h : (zQ [] [(3, 69, 88), (3, 98, 170), (3, 172, 279)] [10, 11] [(4, 3, 4)]) σ0 σ) : zpc (fX12_drum_79 σ x1 x2 x3 s0) (fun r => (zQ [] [(3, 69, 88), (3, 98, 170), (3, 172, 279)] [10, 11] [(4, 3, 4)]) σ0 (r.1)) := by
  unfold fX12_drum_79
  exact zpc_ck (zpc_if (fun _ => fW_fX12_drum_100 h) (fun _ => fW_fX12_drum_100 h))
theorem fW_fX12_drum_74 {σ0 : zSt} {σ : zSt} {x1 : Int32} {x2 : Int32} {x3 : Int32} (h : (zQ [] [(3, 69, 88), (3, 98, 170), (3, 172, 279)] [10, 11] [(4, 3, 4)]) σ0 σ) : zpc (fX12_drum_74 σ x1 x2 x3) (fun r => (zQ [] [(3, 69, 88), (3, 98, 170), (3, 172, 279)] [10, 11] [(4, 3, 4)]) σ0 (r.1)) := by
  unfold fX12_drum_74
  exact fW_fX12_drum_79 h
theorem fW_fX12_drum {σ0 : zSt} {σ : zSt} {x1 : Int32} {x2 : Int32} {x3 : Int32} (h : (zQ [] [(3, 69, 88), (3, 98, 170), (3, 172, 279)] [10, 11] [(4, 3, 4)]) σ0 σ) : zpc (fX12_drum σ x1 x2 x3) (fun r => (zQ [] [(3, 69, 88), (3, 98, 170), (3, 172, 279)] [10, 11] [(4, 3, 4)]) σ0 (r.1)) := by
  unfold fX12_drum
  exact zpc_ck (zpc_ck (zpc_bv (fun v1 _ => zpc_ck (zpc_ck (zpc_bv (fun v2 _ => zpc_if (fun _ => zpc_if (fun _ => zpc_if (fun _ => fW_fX12_drum_79 h) (fun _ => fW_fX12_drum_74 h)) (fun _ => fW_fX12_drum_74 h)) (fun _ => fW_fX12_drum_74 h)))))))
theorem fW_fX12_kept_97 {σ0 : zSt} {σ : zSt} {s0 : Int32} (h : (zQ [] [(3, 69, 88), (3, 98, 170), (3, 172, 279)] [10, 11] [(4, 3, 4)]) σ0 σ) : zpc (fX12_kept_97 σ s0) (fun r => (zQ [] [(3, 69, 88), (3, 98, 170), (3, 172, 279)] [10, 11] [(4, 3, 4)]) σ0 (r.1)) := by
  unfold fX12_kept_97
  exact zpc_some h
theorem fW_fX12_kept {σ0 : zSt} {σ : zSt} {x0 : Int32} (h : (zQ [] [(3, 69, 88), (3, 98, 170), (3, 172, 279)] [10, 11] [(4, 3, 4)]) σ0 σ) : zpc (fX12_kept σ x0) (fun r => (zQ [] [(3, 69, 88), (3, 98, 170), (3, 172, 279)] [10, 11] [(4, 3, 4)]) σ0 (r.1)) := by
  unfold fX12_kept
  exact zpc_if (fun _ => fW_fX12_kept_97 h) (fun _ => zpc_if (fun _ => fW_fX12_kept_97 h) (fun _ => zpc_if (fun _ => fW_fX12_kept_97 h) (fun _ => zpc_if (fun _ => fW_fX12_kept_97 h) (fun _ => zpc_if (fun _ => fW_fX12_kept_97 h) (fun _ => zpc_if (fun _ => fW_fX12_kept_97 h) (fun _ => zpc_if (fun _ => fW_fX12_kept_97 h) (fun _ => zpc_if (fun _ => fW_fX12_kept_97 h) (fun _ => zpc_if (fun _ => fW_fX12_kept_97 h) (fun _ => fW_fX12_kept_97 h)))))))))
theorem fW_fX12_waveAt_376 {σ0 : zSt} {σ : zSt} {s0 : Int32} (h : (zQ [] [(3, 69, 88), (3, 98, 170), (3, 172, 279)] [10, 11] [(4, 3, 4)]) σ0 σ) : zpc (fX12_waveAt_376 σ s0) (fun r => (zQ [] [(3, 69, 88), (3, 98, 170), (3, 172, 279)] [10, 11] [(4, 3, 4)]) σ0 (r.1)) := by
  unfold fX12_waveAt_376
  exact zpc_some h
theorem fW_fX12_waveAt_296 {σ0 : zSt} {σ : zSt} {x2 : Int32} {x3 : Int32} {x4 : Int32} {x5 : Int32} {s0 : Int32} (h : (zQ [] [(3, 69, 88), (3, 98, 170), (3, 172, 279)] [10, 11] [(4, 3, 4)]) σ0 σ) : zpc (fX12_waveAt_296 σ x2 x3 x4 x5 s0) (fun r => (zQ [] [(3, 69, 88), (3, 98, 170), (3, 172, 279)] [10, 11] [(4, 3, 4)]) σ0 (r.1)) := by
  unfold fX12_waveAt_296
  exact zpc_ck (zpc_bv (fun v1 _ => zpc_ck (zpc_ck (zpc_ck (zpc_bv (fun v2 _ => zpc_if (fun _ => zpc_some h) (fun _ => zpc_bi (fW_fX12_patchByte h) (fun σ3 v4 hσ3 => zpc_if (fun _ => fW_fX12_waveAt_376 hσ3) (fun _ => fW_fX12_waveAt_376 hσ3)))))))))
theorem fW_fX12_waveAt_263 {σ0 : zSt} {σ : zSt} {x1 : Int32} {x2 : Int32} {x3 : Int32} {x4 : Int32} {x5 : Int32} {x8 : Int32} {x11 : Int32} {s0 : Int32} (h : (zQ [] [(3, 69, 88), (3, 98, 170), (3, 172, 279)] [10, 11] [(4, 3, 4)]) σ0 σ) : zpc (fX12_waveAt_263 σ x1 x2 x3 x4 x5 x8 x11 s0) (fun r => (zQ [] [(3, 69, 88), (3, 98, 170), (3, 172, 279)] [10, 11] [(4, 3, 4)]) σ0 (r.1)) := by
  unfold fX12_waveAt_263
  exact zpc_ck (zpc_bv (fun v5 _ => zpc_if (fun _ => fW_fX12_waveAt_296 h) (fun _ => fW_fX12_waveAt_296 h)))
theorem fW_fX12_waveAt_260 {σ0 : zSt} {σ : zSt} {x1 : Int32} {x2 : Int32} {x3 : Int32} {x4 : Int32} {x5 : Int32} {x8 : Int32} {x11 : Int32} {s0 : Int32} (h : (zQ [] [(3, 69, 88), (3, 98, 170), (3, 172, 279)] [10, 11] [(4, 3, 4)]) σ0 σ) : zpc (fX12_waveAt_260 σ x1 x2 x3 x4 x5 x8 x11 s0) (fun r => (zQ [] [(3, 69, 88), (3, 98, 170), (3, 172, 279)] [10, 11] [(4, 3, 4)]) σ0 (r.1)) := by
  unfold fX12_waveAt_260
  exact zpc_ck (fW_fX12_waveAt_263 h)
theorem fW_fX12_waveAt_206 {σ0 : zSt} {σ : zSt} {x1 : Int32} {x2 : Int32} {x3 : Int32} {x4 : Int32} {x5 : Int32} {x8 : Int32} {s0 : Int32} (h : (zQ [] [(3, 69, 88), (3, 98, 170), (3, 172, 279)] [10, 11] [(4, 3, 4)]) σ0 σ) : zpc (fX12_waveAt_206 σ x1 x2 x3 x4 x5 x8 s0) (fun r => (zQ [] [(3, 69, 88), (3, 98, 170), (3, 172, 279)] [10, 11] [(4, 3, 4)]) σ0 (r.1)) := by
  unfold fX12_waveAt_206
  exact zpc_ck (zpc_ck (zpc_ck (zpc_bv (fun v6 _ => zpc_bi (fW_fX12_patchByte h) (fun σ7 v8 hσ7 => zpc_if (fun _ => fW_fX12_waveAt_263 hσ7) (fun _ => zpc_if (fun _ => fW_fX12_waveAt_260 hσ7) (fun _ => fW_fX12_waveAt_260 hσ7)))))))
theorem fW_fX12_waveAt_192 {σ0 : zSt} {σ : zSt} {x1 : Int32} {x2 : Int32} {x3 : Int32} {x4 : Int32} {x5 : Int32} {x8 : Int32} {x9 : Int32} (h : (zQ [] [(3, 69, 88), (3, 98, 170), (3, 172, 279)] [10, 11] [(4, 3, 4)]) σ0 σ) : zpc (fX12_waveAt_192 σ x1 x2 x3 x4 x5 x8 x9) (fun r => (zQ [] [(3, 69, 88), (3, 98, 170), (3, 172, 279)] [10, 11] [(4, 3, 4)]) σ0 (r.1)) := by
  unfold fX12_waveAt_192
  exact zpc_ck (zpc_ck (fW_fX12_waveAt_206 h))
theorem fW_fX12_waveAt_123 {σ0 : zSt} {σ : zSt} {x1 : Int32} {x2 : Int32} {x3 : Int32} {x4 : Int32} {x5 : Int32} {s0 : Int32} (h : (zQ [] [(3, 69, 88), (3, 98, 170), (3, 172, 279)] [10, 11] [(4, 3, 4)]) σ0 σ) : zpc (fX12_waveAt_123 σ x1 x2 x3 x4 x5 s0) (fun r => (zQ [] [(3, 69, 88), (3, 98, 170), (3, 172, 279)] [10, 11] [(4, 3, 4)]) σ0 (r.1)) := by
  unfold fX12_waveAt_123
  exact zpc_bi (fW_fX12_patchByte h) (fun σ9 v10 hσ9 => zpc_bv (fun v11 _ => zpc_bi (fW_fX12_wreg hσ9) (fun σ12 v13 hσ12 => zpc_bv (fun v14 _ => zpc_if (fun _ => fW_fX12_waveAt_206 hσ12) (fun _ => zpc_bi (fW_fX12_isRhythm hσ12) (fun σ15 v16 hσ15 => zpc_if (fun _ => fW_fX12_waveAt_192 hσ15) (fun _ => zpc_if (fun _ => fW_fX12_waveAt_192 hσ15) (fun _ => zpc_bi (fW_fX12_wreg hσ15) (fun σ17 v18 hσ17 => fW_fX12_waveAt_206 hσ17)))))))))
theorem fW_fX12_waveAt_91 {σ0 : zSt} {σ : zSt} {x1 : Int32} {x2 : Int32} {x3 : Int32} {x4 : Int32} {x5 : Int32} (h : (zQ [] [(3, 69, 88), (3, 98, 170), (3, 172, 279)] [10, 11] [(4, 3, 4)]) σ0 σ) : zpc (fX12_waveAt_91 σ x1 x2 x3 x4 x5) (fun r => (zQ [] [(3, 69, 88), (3, 98, 170), (3, 172, 279)] [10, 11] [(4, 3, 4)]) σ0 (r.1)) := by
  unfold fX12_waveAt_91
  exact fW_fX12_waveAt_123 h
theorem fW_fX12_waveAt_41 {σ0 : zSt} {σ : zSt} {x1 : Int32} {x2 : Int32} {x3 : Int32} {x4 : Int32} {s0 : Int32} (h : (zQ [] [(3, 69, 88), (3, 98, 170), (3, 172, 279)] [10, 11] [(4, 3, 4)]) σ0 σ) : zpc (fX12_waveAt_41 σ x1 x2 x3 x4 s0) (fun r => (zQ [] [(3, 69, 88), (3, 98, 170), (3, 172, 279)] [10, 11] [(4, 3, 4)]) σ0 (r.1)) := by
  unfold fX12_waveAt_41
  exact zpc_bi (fW_fX12_patchByte h) (fun σ19 v20 hσ19 => zpc_bv (fun v21 _ => zpc_bi (fW_fX12_f hσ19) (fun σ22 v23 hσ22 => zpc_ck (zpc_bi (fW_fX12_kept hσ22) (fun σ24 v25 hσ24 => zpc_bi (fW_fX12_block hσ24) (fun σ26 v27 hσ26 => zpc_bv (fun v28 _ => zpc_if (fun _ => fW_fX12_waveAt_91 hσ26) (fun _ => zpc_if (fun _ => fW_fX12_waveAt_91 hσ26) (fun _ => zpc_if (fun _ => zpc_ck (fW_fX12_waveAt_123 hσ26)) (fun _ => zpc_if (fun _ => zpc_ck (fW_fX12_waveAt_123 hσ26)) (fun _ => fW_fX12_waveAt_123 hσ26)))))))))))
theorem fW_fX12_waveAt {σ0 : zSt} {σ : zSt} {x1 : Int32} {x2 : Int32} {x3 : Int32} {x4 : Int32} (h : (zQ [] [(3, 69, 88), (3, 98, 170), (3, 172, 279)] [10, 11] [(4, 3, 4)]) σ0 σ) : zpc (fX12_waveAt σ x1 x2 x3 x4) (fun r => (zQ [] [(3, 69, 88), (3, 98, 170), (3, 172, 279)] [10, 11] [(4, 3, 4)]) σ0 (r.1)) := by
  unfold fX12_waveAt
  exact zpc_ck (zpc_if (fun _ => zpc_if (fun _ => zpc_ck (fW_fX12_waveAt_41 h)) (fun _ => zpc_ck (fW_fX12_waveAt_41 h))) (fun _ => zpc_some h))
theorem fW_fX12_operator_319 {σ0 : zSt} {σ : zSt} {x1 : Int32} {x2 : Int32} {x3 : Int32} {x5 : Int32} {x8 : Int32} (h : (zQ [] [(3, 69, 88), (3, 98, 170), (3, 172, 279)] [10, 11] [(4, 3, 4)]) σ0 σ) (qx3 : zr 172 274 x3) : zpc (fX12_operator_319 σ x1 x2 x3 x5 x8) (fun r => (zQ [] [(3, 69, 88), (3, 98, 170), (3, 172, 279)] [10, 11] [(4, 3, 4)]) σ0 (r)) := by
  unfold fX12_operator_319
  exact zpc_ck (zpc_bs (zQ.wr (a := 172) (b := 279) (lo := 176) (hi := 278) h (zr_add (lo := 176) (hi := 278) qx3 (zr_c (x := 4) (lo := 4) (hi := 4) (by decide)) (by decide)) rfl (by decide)) (fun σ1 hσ1 => zpc_bi (fW_fX12_waveAt hσ1) (fun σ2 v3 hσ2 => zpc_ck (zpc_bs (zQ.wr (a := 172) (b := 279) (lo := 175) (hi := 277) hσ2 (zr_add (lo := 175) (hi := 277) qx3 (zr_c (x := 3) (lo := 3) (hi := 3) (by decide)) (by decide)) rfl (by decide)) (fun σ4 hσ4 => zpc_some hσ4)))))
theorem fW_fX12_operator_266 {σ0 : zSt} {σ : zSt} {x1 : Int32} {x2 : Int32} {x3 : Int32} {x5 : Int32} {s0 : Int32} (h : (zQ [] [(3, 69, 88), (3, 98, 170), (3, 172, 279)] [10, 11] [(4, 3, 4)]) σ0 σ) (qx3 : zr 172 274 x3) : zpc (fX12_operator_266 σ x1 x2 x3 x5 s0) (fun r => (zQ [] [(3, 69, 88), (3, 98, 170), (3, 172, 279)] [10, 11] [(4, 3, 4)]) σ0 (r)) := by
  unfold fX12_operator_266
  exact zpc_ck (zpc_ck (zpc_bv (fun v5 _ => zpc_bi (fW_fX12_isRhythm h) (fun σ6 v7 hσ6 => zpc_if (fun _ => fW_fX12_operator_319 hσ6 qx3) (fun _ => zpc_if (fun _ => fW_fX12_operator_319 hσ6 qx3) (fun _ => zpc_ck (zpc_ck (zpc_bi (fW_fX12_drum hσ6) (fun σ8 v9 hσ8 => fW_fX12_operator_319 hσ8 qx3)))))))))
theorem fW_fX12_operator_190 {σ0 : zSt} {σ : zSt} {x1 : Int32} {x2 : Int32} {x3 : Int32} (h : (zQ [] [(3, 69, 88), (3, 98, 170), (3, 172, 279)] [10, 11] [(4, 3, 4)]) σ0 σ) (qx3 : zr 172 274 x3) : zpc (fX12_operator_190 σ x1 x2 x3) (fun r => (zQ [] [(3, 69, 88), (3, 98, 170), (3, 172, 279)] [10, 11] [(4, 3, 4)]) σ0 (r)) := by
  unfold fX12_operator_190
  exact zpc_bu (fW_fX12_phase h qx3) (fun σ10 hσ10 => zpc_ck (zpc_bv (fun v11 _ => zpc_bi (fW_fX12_patchByte hσ10) (fun σ12 v13 hσ12 => zpc_bv (fun v14 _ => zpc_if (fun _ => zpc_ck (fW_fX12_operator_266 hσ12 qx3)) (fun _ => zpc_if (fun _ => fW_fX12_operator_266 hσ12 qx3) (fun _ => zpc_ck (zpc_ck (fW_fX12_operator_266 hσ12 qx3)))))))))
theorem fW_fX12_operator_146 {σ0 : zSt} {σ : zSt} {x1 : Int32} {x2 : Int32} {x3 : Int32} (h : (zQ [] [(3, 69, 88), (3, 98, 170), (3, 172, 279)] [10, 11] [(4, 3, 4)]) σ0 σ) (qx3 : zr 172 274 x3) : zpc (fX12_operator_146 σ x1 x2 x3) (fun r => (zQ [] [(3, 69, 88), (3, 98, 170), (3, 172, 279)] [10, 11] [(4, 3, 4)]) σ0 (r)) := by
  unfold fX12_operator_146
  exact zpc_ck (zpc_if (fun _ => zpc_ck (zpc_ck (zpc_bi (fW_fX12_patchByte h) (fun σ15 v16 hσ15 => zpc_if (fun _ => fW_fX12_operator_190 hσ15 qx3) (fun _ => zpc_ck (zpc_bs (zQ.wr (a := 172) (b := 279) (lo := 173) (hi := 275) hσ15 (zr_add (lo := 173) (hi := 275) qx3 (zr_c (x := 1) (lo := 1) (hi := 1) (by decide)) (by decide)) rfl (by decide)) (fun σ17 hσ17 => fW_fX12_operator_190 hσ17 qx3))))))) (fun _ => fW_fX12_operator_190 h qx3))
theorem fW_fX12_operator_113 {σ0 : zSt} {σ : zSt} {x1 : Int32} {x2 : Int32} {x3 : Int32} (h : (zQ [] [(3, 69, 88), (3, 98, 170), (3, 172, 279)] [10, 11] [(4, 3, 4)]) σ0 σ) (qx3 : zr 172 274 x3) : zpc (fX12_operator_113 σ x1 x2 x3) (fun r => (zQ [] [(3, 69, 88), (3, 98, 170), (3, 172, 279)] [10, 11] [(4, 3, 4)]) σ0 (r)) := by
  unfold fX12_operator_113
  exact zpc_ck (zpc_if (fun _ => zpc_ck (zpc_if (fun _ => zpc_ck (zpc_bs (zQ.wr (a := 172) (b := 279) (lo := 173) (hi := 275) h (zr_add (lo := 173) (hi := 275) qx3 (zr_c (x := 1) (lo := 1) (hi := 1) (by decide)) (by decide)) rfl (by decide)) (fun σ18 hσ18 => fW_fX12_operator_190 hσ18 qx3))) (fun _ => fW_fX12_operator_146 h qx3))) (fun _ => fW_fX12_operator_146 h qx3))
theorem fW_fX12_operator_53 {σ0 : zSt} {σ : zSt} {x1 : Int32} {x2 : Int32} {x3 : Int32} {x4 : Int32} (h : (zQ [] [(3, 69, 88), (3, 98, 170), (3, 172, 279)] [10, 11] [(4, 3, 4)]) σ0 σ) (qx3 : zr 172 274 x3) : zpc (fX12_operator_53 σ x1 x2 x3 x4) (fun r => (zQ [] [(3, 69, 88), (3, 98, 170), (3, 172, 279)] [10, 11] [(4, 3, 4)]) σ0 (r)) := by
  unfold fX12_operator_53
  exact zpc_ck (zpc_bs (zQ.wr (a := 172) (b := 279) (lo := 177) (hi := 279) h (zr_add (lo := 177) (hi := 279) qx3 (zr_c (x := 5) (lo := 5) (hi := 5) (by decide)) (by decide)) rfl (by decide)) (fun σ19 hσ19 => zpc_bu (fW_fX12_envelope hσ19 qx3) (fun σ20 hσ20 => zpc_ck (zpc_if (fun _ => zpc_ck (zpc_if (fun _ => fW_fX12_operator_113 hσ20 qx3) (fun _ => zpc_ck (zpc_bs (zQ.wr (a := 172) (b := 279) (lo := 173) (hi := 275) hσ20 (zr_add (lo := 173) (hi := 275) qx3 (zr_c (x := 1) (lo := 1) (hi := 1) (by decide)) (by decide)) rfl (by decide)) (fun σ21 hσ21 => zpc_ck (zpc_bs (zQ.wr (a := 172) (b := 279) (lo := 174) (hi := 276) hσ21 (zr_add (lo := 174) (hi := 276) qx3 (zr_c (x := 2) (lo := 2) (hi := 2) (by decide)) (by decide)) rfl (by decide)) (fun σ22 hσ22 => fW_fX12_operator_190 hσ22 qx3))))))) (fun _ => fW_fX12_operator_113 hσ20 qx3)))))
theorem fW_fX12_operator_52 {σ0 : zSt} {σ : zSt} {x1 : Int32} {x2 : Int32} {x3 : Int32} {x4 : Int32} {s0 : Int32} {s1 : Int32} (h : (zQ [] [(3, 69, 88), (3, 98, 170), (3, 172, 279)] [10, 11] [(4, 3, 4)]) σ0 σ) (qx3 : zr 172 274 x3) (qs1 : zr 172 279 s1) : zpc (fX12_operator_52 σ x1 x2 x3 x4 s0 s1) (fun r => (zQ [] [(3, 69, 88), (3, 98, 170), (3, 172, 279)] [10, 11] [(4, 3, 4)]) σ0 (r)) := by
  unfold fX12_operator_52
  exact zpc_ck (zpc_bs (zQ.wr (a := 172) (b := 279) (lo := 172) (hi := 279) h qs1 rfl (by decide)) (fun σ23 hσ23 => fW_fX12_operator_53 hσ23 qx3))
theorem fW_fX12_operator {σ0 : zSt} {σ : zSt} {x1 : Int32} {x2 : Int32} (h : (zQ [] [(3, 69, 88), (3, 98, 170), (3, 172, 279)] [10, 11] [(4, 3, 4)]) σ0 σ) (qx1 : zr 0 8 x1) (qx2 : zr 0 1 x2) : zpc (fX12_operator σ x1 x2) (fun r => (zQ [] [(3, 69, 88), (3, 98, 170), (3, 172, 279)] [10, 11] [(4, 3, 4)]) σ0 (r)) := by
  unfold fX12_operator
  exact zpc_bv (fun v24 ev24 => zpc_bi (fW_fX12_isOn h) (fun σ25 v26 hσ25 => zpc_ck (zpc_if (fun _ => fW_fX12_operator_53 hσ25 (show zr 172 274 v24 by rw [ev24]; exact (zr_add (lo := 172) (hi := 274) (zr_c (x := 172) (lo := 172) (hi := 172) (by decide)) (zr_mul (lo := 0) (hi := 102) (zr_c (x := 6) (lo := 6) (hi := 6) (by decide)) (zr_add (lo := 0) (hi := 17) (zr_mul (lo := 0) (hi := 16) (zr_c (x := 2) (lo := 2) (hi := 2) (by decide)) qx1 (by decide)) qx2 (by decide)) (by decide)) (by decide)))) (fun _ => zpc_if (fun _ => fW_fX12_operator_52 hσ25 (show zr 172 274 v24 by rw [ev24]; exact (zr_add (lo := 172) (hi := 274) (zr_c (x := 172) (lo := 172) (hi := 172) (by decide)) (zr_mul (lo := 0) (hi := 102) (zr_c (x := 6) (lo := 6) (hi := 6) (by decide)) (zr_add (lo := 0) (hi := 17) (zr_mul (lo := 0) (hi := 16) (zr_c (x := 2) (lo := 2) (hi := 2) (by decide)) qx1 (by decide)) qx2 (by decide)) (by decide)) (by decide))) (zr_w (zr_add (lo := 173) (hi := 275) (show zr 172 274 v24 by rw [ev24]; exact (zr_add (lo := 172) (hi := 274) (zr_c (x := 172) (lo := 172) (hi := 172) (by decide)) (zr_mul (lo := 0) (hi := 102) (zr_c (x := 6) (lo := 6) (hi := 6) (by decide)) (zr_add (lo := 0) (hi := 17) (zr_mul (lo := 0) (hi := 16) (zr_c (x := 2) (lo := 2) (hi := 2) (by decide)) qx1 (by decide)) qx2 (by decide)) (by decide)) (by decide))) (zr_c (x := 1) (lo := 1) (hi := 1) (by decide)) (by decide)) (by decide))) (fun _ => fW_fX12_operator_52 hσ25 (show zr 172 274 v24 by rw [ev24]; exact (zr_add (lo := 172) (hi := 274) (zr_c (x := 172) (lo := 172) (hi := 172) (by decide)) (zr_mul (lo := 0) (hi := 102) (zr_c (x := 6) (lo := 6) (hi := 6) (by decide)) (zr_add (lo := 0) (hi := 17) (zr_mul (lo := 0) (hi := 16) (zr_c (x := 2) (lo := 2) (hi := 2) (by decide)) qx1 (by decide)) qx2 (by decide)) (by decide)) (by decide))) (zr_w (zr_add (lo := 173) (hi := 275) (show zr 172 274 v24 by rw [ev24]; exact (zr_add (lo := 172) (hi := 274) (zr_c (x := 172) (lo := 172) (hi := 172) (by decide)) (zr_mul (lo := 0) (hi := 102) (zr_c (x := 6) (lo := 6) (hi := 6) (by decide)) (zr_add (lo := 0) (hi := 17) (zr_mul (lo := 0) (hi := 16) (zr_c (x := 2) (lo := 2) (hi := 2) (by decide)) qx1 (by decide)) qx2 (by decide)) (by decide)) (by decide))) (zr_c (x := 1) (lo := 1) (hi := 1) (by decide)) (by decide)) (by decide)))))))
theorem fW_fX12_waves_20_body {σ0 : zSt} {k12 : zSt → Int32 → Option (zSt)} (hk12 : ∀ (y0 : zSt) (y1 : Int32), (zQ [] [(3, 69, 88), (3, 98, 170), (3, 172, 279)] [10, 11] [(4, 3, 4)]) σ0 y0 → zr 0 9 y1 → zpc (k12 y0 y1) (fun r => (zQ [] [(3, 69, 88), (3, 98, 170), (3, 172, 279)] [10, 11] [(4, 3, 4)]) σ0 (r))) {k20 : zSt → Int32 → Int32 → Option (zSt)} (hk20 : ∀ (y0 : zSt) (y1 : Int32) (y2 : Int32), (zQ [] [(3, 69, 88), (3, 98, 170), (3, 172, 279)] [10, 11] [(4, 3, 4)]) σ0 y0 → zr 0 8 y1 → zr 0 2 y2 → zpc (k20 y0 y1 y2) (fun r => (zQ [] [(3, 69, 88), (3, 98, 170), (3, 172, 279)] [10, 11] [(4, 3, 4)]) σ0 (r))) {σ : zSt} {x1 : Int32} {x2 : Int32} (h : (zQ [] [(3, 69, 88), (3, 98, 170), (3, 172, 279)] [10, 11] [(4, 3, 4)]) σ0 σ) (qx1 : zr 0 8 x1) (qx2 : zr 0 2 x2) : zpc (fX12_waves_20_body k12 k20 σ x1 x2) (fun r => (zQ [] [(3, 69, 88), (3, 98, 170), (3, 172, 279)] [10, 11] [(4, 3, 4)]) σ0 (r)) := by
  unfold fX12_waves_20_body
  exact zpc_if (fun g2 => zpc_bv (fun v1 ev1 => hk12 _ _ h (zr_w (show zr 1 9 v1 by rw [ev1]; exact (zr_add (lo := 1) (hi := 9) qx1 (zr_c (x := 1) (lo := 1) (hi := 1) (by decide)) (by decide))) (by decide)))) (fun g2 => zpc_bu (fW_fX12_operator h qx1 (zr_nge (k := 2) (m := 1) qx2 rfl g2 (by decide))) (fun σ2 hσ2 => zpc_bv (fun v3 ev3 => hk20 _ _ _ hσ2 qx1 (zr_w (show zr 1 2 v3 by rw [ev3]; exact (zr_add (lo := 1) (hi := 2) (zr_nge (k := 2) (m := 1) qx2 rfl g2 (by decide)) (zr_c (x := 1) (lo := 1) (hi := 1) (by decide)) (by decide))) (by decide)))))
theorem fW_fX12_waves_20 {σ0 : zSt} {k12 : zSt → Int32 → Option (zSt)} (hk12 : ∀ (y0 : zSt) (y1 : Int32), (zQ [] [(3, 69, 88), (3, 98, 170), (3, 172, 279)] [10, 11] [(4, 3, 4)]) σ0 y0 → zr 0 9 y1 → zpc (k12 y0 y1) (fun r => (zQ [] [(3, 69, 88), (3, 98, 170), (3, 172, 279)] [10, 11] [(4, 3, 4)]) σ0 (r))) : ∀ (n : Nat) (y0 : zSt) (y1 : Int32) (y2 : Int32), (zQ [] [(3, 69, 88), (3, 98, 170), (3, 172, 279)] [10, 11] [(4, 3, 4)]) σ0 y0 → zr 0 8 y1 → zr 0 2 y2 → zpc (fX12_waves_20 k12 n y0 y1 y2) (fun r => (zQ [] [(3, 69, 88), (3, 98, 170), (3, 172, 279)] [10, 11] [(4, 3, 4)]) σ0 (r)) := by
  intro n
  induction n with
  | zero => intro y0 y1 y2 h q1 q2; exact zpc_none
  | succ n ih => intro y0 y1 y2 h q1 q2; exact fW_fX12_waves_20_body hk12 ih h q1 q2
theorem fW_fX12_waves_157 {σ0 : zSt} {k82 : zSt → Int32 → Int32 → Option (zSt)} (hk82 : ∀ (y0 : zSt) (y1 : Int32) (y2 : Int32), (zQ [] [(3, 69, 88), (3, 98, 170), (3, 172, 279)] [10, 11] [(4, 3, 4)]) σ0 y0 → zpc (k82 y0 y1 y2) (fun r => (zQ [] [(3, 69, 88), (3, 98, 170), (3, 172, 279)] [10, 11] [(4, 3, 4)]) σ0 (r))) {σ : zSt} {x2 : Int32} {x3 : Int32} (h : (zQ [] [(3, 69, 88), (3, 98, 170), (3, 172, 279)] [10, 11] [(4, 3, 4)]) σ0 σ) : zpc (fX12_waves_157 k82 σ x2 x3) (fun r => (zQ [] [(3, 69, 88), (3, 98, 170), (3, 172, 279)] [10, 11] [(4, 3, 4)]) σ0 (r)) := by
  unfold fX12_waves_157
  exact zpc_bv (fun v4 _ => hk82 _ _ _ h)
theorem fW_fX12_waves_153 {σ0 : zSt} {k82 : zSt → Int32 → Int32 → Option (zSt)} (hk82 : ∀ (y0 : zSt) (y1 : Int32) (y2 : Int32), (zQ [] [(3, 69, 88), (3, 98, 170), (3, 172, 279)] [10, 11] [(4, 3, 4)]) σ0 y0 → zpc (k82 y0 y1 y2) (fun r => (zQ [] [(3, 69, 88), (3, 98, 170), (3, 172, 279)] [10, 11] [(4, 3, 4)]) σ0 (r))) {σ : zSt} {x3 : Int32} {s0 : Int32} {s1 : Int32} {s2 : Int32} {s3 : Int32} (h : (zQ [] [(3, 69, 88), (3, 98, 170), (3, 172, 279)] [10, 11] [(4, 3, 4)]) σ0 σ) : zpc (fX12_waves_153 k82 σ x3 s0 s1 s2 s3) (fun r => (zQ [] [(3, 69, 88), (3, 98, 170), (3, 172, 279)] [10, 11] [(4, 3, 4)]) σ0 (r)) := by
  unfold fX12_waves_153
  exact zpc_bv (fun v5 _ => fW_fX12_waves_157 hk82 h)
theorem fW_fX12_waves_82_body {σ0 : zSt} {k82 : zSt → Int32 → Int32 → Option (zSt)} (hk82 : ∀ (y0 : zSt) (y1 : Int32) (y2 : Int32), (zQ [] [(3, 69, 88), (3, 98, 170), (3, 172, 279)] [10, 11] [(4, 3, 4)]) σ0 y0 → zpc (k82 y0 y1 y2) (fun r => (zQ [] [(3, 69, 88), (3, 98, 170), (3, 172, 279)] [10, 11] [(4, 3, 4)]) σ0 (r))) {σ : zSt} {x2 : Int32} {x3 : Int32} (h : (zQ [] [(3, 69, 88), (3, 98, 170), (3, 172, 279)] [10, 11] [(4, 3, 4)]) σ0 σ) : zpc (fX12_waves_82_body k82 σ x2 x3) (fun r => (zQ [] [(3, 69, 88), (3, 98, 170), (3, 172, 279)] [10, 11] [(4, 3, 4)]) σ0 (r)) := by
  unfold fX12_waves_82_body
  exact zpc_if (fun _ => zpc_ck (zpc_bs (zQ.wi h rfl) (fun σ6 hσ6 => zpc_some hσ6))) (fun _ => zpc_bv (fun v7 _ => zpc_bi (fW_fX12_isRhythm h) (fun σ8 v9 hσ8 => zpc_if (fun _ => zpc_ck (zpc_bv (fun v10 _ => fW_fX12_waves_157 hk82 hσ8))) (fun _ => zpc_ck (zpc_if (fun _ => fW_fX12_waves_153 hk82 hσ8) (fun _ => zpc_ck (fW_fX12_waves_153 hk82 hσ8)))))))
theorem fW_fX12_waves_82 {σ0 : zSt} : ∀ (n : Nat) (y0 : zSt) (y1 : Int32) (y2 : Int32), (zQ [] [(3, 69, 88), (3, 98, 170), (3, 172, 279)] [10, 11] [(4, 3, 4)]) σ0 y0 → zpc (fX12_waves_82 n y0 y1 y2) (fun r => (zQ [] [(3, 69, 88), (3, 98, 170), (3, 172, 279)] [10, 11] [(4, 3, 4)]) σ0 (r)) := by
  intro n
  induction n with
  | zero => intro y0 y1 y2 h; exact zpc_none
  | succ n ih => intro y0 y1 y2 h; exact fW_fX12_waves_82_body ih h
theorem fW_fX12_waves_75 {σ0 : zSt} {σ : zSt} {s0 : Int32} {s1 : Int32} (h : (zQ [] [(3, 69, 88), (3, 98, 170), (3, 172, 279)] [10, 11] [(4, 3, 4)]) σ0 σ) (qs1 : zr 164 164 s1) : zpc (fX12_waves_75 σ s0 s1) (fun r => (zQ [] [(3, 69, 88), (3, 98, 170), (3, 172, 279)] [10, 11] [(4, 3, 4)]) σ0 (r)) := by
  unfold fX12_waves_75
  exact zpc_ck (zpc_bs (zQ.wr (a := 98) (b := 170) (lo := 164) (hi := 164) h qs1 rfl (by decide)) (fun σ11 hσ11 => fW_fX12_waves_82 _ _ _ _ hσ11))
theorem fW_fX12_waves_12_body {σ0 : zSt} {k12 : zSt → Int32 → Option (zSt)} (hk12 : ∀ (y0 : zSt) (y1 : Int32), (zQ [] [(3, 69, 88), (3, 98, 170), (3, 172, 279)] [10, 11] [(4, 3, 4)]) σ0 y0 → zr 0 9 y1 → zpc (k12 y0 y1) (fun r => (zQ [] [(3, 69, 88), (3, 98, 170), (3, 172, 279)] [10, 11] [(4, 3, 4)]) σ0 (r))) {σ : zSt} {x1 : Int32} (h : (zQ [] [(3, 69, 88), (3, 98, 170), (3, 172, 279)] [10, 11] [(4, 3, 4)]) σ0 σ) (qx1 : zr 0 9 x1) : zpc (fX12_waves_12_body k12 σ x1) (fun r => (zQ [] [(3, 69, 88), (3, 98, 170), (3, 172, 279)] [10, 11] [(4, 3, 4)]) σ0 (r)) := by
  unfold fX12_waves_12_body
  exact zpc_if (fun g3 => zpc_ck (zpc_bv (fun v12 _ => zpc_if (fun _ => fW_fX12_waves_75 h (zr_c (x := 164) (lo := 164) (hi := 164) (by decide))) (fun _ => fW_fX12_waves_75 h (zr_c (x := 164) (lo := 164) (hi := 164) (by decide)))))) (fun g3 => fW_fX12_waves_20 hk12 _ _ _ _ h (zr_nge (k := 9) (m := 8) qx1 rfl g3 (by decide)) (zr_w (zr_c (x := 0) (lo := 0) (hi := 0) (by decide)) (by decide)))
theorem fW_fX12_waves_12 {σ0 : zSt} : ∀ (n : Nat) (y0 : zSt) (y1 : Int32), (zQ [] [(3, 69, 88), (3, 98, 170), (3, 172, 279)] [10, 11] [(4, 3, 4)]) σ0 y0 → zr 0 9 y1 → zpc (fX12_waves_12 n y0 y1) (fun r => (zQ [] [(3, 69, 88), (3, 98, 170), (3, 172, 279)] [10, 11] [(4, 3, 4)]) σ0 (r)) := by
  intro n
  induction n with
  | zero => intro y0 y1 h q1; exact zpc_none
  | succ n ih => intro y0 y1 h q1; exact fW_fX12_waves_12_body ih h q1
theorem fW_fX12_waves {σ0 : zSt} {σ : zSt} (h : (zQ [] [(3, 69, 88), (3, 98, 170), (3, 172, 279)] [10, 11] [(4, 3, 4)]) σ0 σ) : zpc (fX12_waves σ) (fun r => (zQ [] [(3, 69, 88), (3, 98, 170), (3, 172, 279)] [10, 11] [(4, 3, 4)]) σ0 (r)) := by
  unfold fX12_waves
  exact zpc_ck (zpc_ck (zpc_bs (zQ.wl h rfl) (fun σ13 hσ13 => fW_fX12_waves_12 _ _ _ hσ13 (zr_w (zr_c (x := 0) (lo := 0) (hi := 0) (by decide)) (by decide)))))
theorem fW_fX12_mixed_151 {σ0 : zSt} {σ : zSt} {x2 : Int64} (h : (zQ [] [(3, 69, 88), (3, 98, 170), (3, 172, 279)] [10, 11] [(4, 3, 4)]) σ0 σ) : zpc (fX12_mixed_151 σ x2) (fun r => (zQ [] [(3, 69, 88), (3, 98, 170), (3, 172, 279)] [10, 11] [(4, 3, 4)]) σ0 (r)) := by
  unfold fX12_mixed_151
  exact zpc_ck (zpc_ck (zpc_ck (zpc_ck (zpc_bs (zQ.wl h rfl) (fun σ1 hσ1 => zpc_some hσ1)))))
theorem fW_fX12_mixed_76_body {σ0 : zSt} {k76 : zSt → Int64 → Int32 → Option (zSt)} (hk76 : ∀ (y0 : zSt) (y1 : Int64) (y2 : Int32), (zQ [] [(3, 69, 88), (3, 98, 170), (3, 172, 279)] [10, 11] [(4, 3, 4)]) σ0 y0 → zr 0 3 y2 → zpc (k76 y0 y1 y2) (fun r => (zQ [] [(3, 69, 88), (3, 98, 170), (3, 172, 279)] [10, 11] [(4, 3, 4)]) σ0 (r))) {σ : zSt} {x2 : Int64} {x4 : Int32} (h : (zQ [] [(3, 69, 88), (3, 98, 170), (3, 172, 279)] [10, 11] [(4, 3, 4)]) σ0 σ) (qx4 : zr 0 3 x4) : zpc (fX12_mixed_76_body k76 σ x2 x4) (fun r => (zQ [] [(3, 69, 88), (3, 98, 170), (3, 172, 279)] [10, 11] [(4, 3, 4)]) σ0 (r)) := by
  unfold fX12_mixed_76_body
  exact zpc_if (fun g4 => zpc_ck (zpc_if (fun _ => zpc_ck (zpc_ck (zpc_ck (zpc_bs (zQ.wi h rfl) (fun σ3 hσ3 => fW_fX12_mixed_151 hσ3))))) (fun _ => zpc_ck (zpc_ck (zpc_bs (zQ.wi h rfl) (fun σ2 hσ2 => fW_fX12_mixed_151 hσ2)))))) (fun g4 => zpc_ck (zpc_bs (zQ.wr (a := 98) (b := 170) (lo := 166) (hi := 168) h (zr_add (lo := 166) (hi := 168) (zr_c (x := 166) (lo := 166) (hi := 166) (by decide)) (zr_nge (k := 3) (m := 2) qx4 rfl g4 (by decide)) (by decide)) rfl (by decide)) (fun σ4 hσ4 => zpc_bv (fun v5 ev5 => hk76 _ _ _ hσ4 (zr_w (show zr 1 3 v5 by rw [ev5]; exact (zr_add (lo := 1) (hi := 3) (zr_nge (k := 3) (m := 2) qx4 rfl g4 (by decide)) (zr_c (x := 1) (lo := 1) (hi := 1) (by decide)) (by decide))) (by decide))))))
theorem fW_fX12_mixed_76 {σ0 : zSt} : ∀ (n : Nat) (y0 : zSt) (y1 : Int64) (y2 : Int32), (zQ [] [(3, 69, 88), (3, 98, 170), (3, 172, 279)] [10, 11] [(4, 3, 4)]) σ0 y0 → zr 0 3 y2 → zpc (fX12_mixed_76 n y0 y1 y2) (fun r => (zQ [] [(3, 69, 88), (3, 98, 170), (3, 172, 279)] [10, 11] [(4, 3, 4)]) σ0 (r)) := by
  intro n
  induction n with
  | zero => intro y0 y1 y2 h q2; exact zpc_none
  | succ n ih => intro y0 y1 y2 h q2; exact fW_fX12_mixed_76_body ih h q2
theorem fW_fX12_mixed_26 {σ0 : zSt} {σ : zSt} {s0 : Int32} (h : (zQ [] [(3, 69, 88), (3, 98, 170), (3, 172, 279)] [10, 11] [(4, 3, 4)]) σ0 σ) : zpc (fX12_mixed_26 σ s0) (fun r => (zQ [] [(3, 69, 88), (3, 98, 170), (3, 172, 279)] [10, 11] [(4, 3, 4)]) σ0 (r)) := by
  unfold fX12_mixed_26
  exact zpc_ck (zpc_ck (zpc_ck (zpc_ck (zpc_ck (zpc_ck (zpc_bv (fun v6 _ => fW_fX12_mixed_76 _ _ _ _ h (zr_w (zr_c (x := 0) (lo := 0) (hi := 0) (by decide)) (by decide)))))))))
theorem fW_fX12_mixed {σ0 : zSt} {σ : zSt} (h : (zQ [] [(3, 69, 88), (3, 98, 170), (3, 172, 279)] [10, 11] [(4, 3, 4)]) σ0 σ) : zpc (fX12_mixed σ) (fun r => (zQ [] [(3, 69, 88), (3, 98, 170), (3, 172, 279)] [10, 11] [(4, 3, 4)]) σ0 (r)) := by
  unfold fX12_mixed
  exact zpc_ck (zpc_if (fun _ => zpc_ck (fW_fX12_mixed_26 h)) (fun _ => fW_fX12_mixed_26 h))
theorem fW_fX12_once_377_body {σ0 : zSt} {k377 : zSt → Int64 → Option (zSt)} (hk377 : ∀ (y0 : zSt) (y1 : Int64), (zQ [] [(3, 69, 88), (3, 98, 170), (3, 172, 279)] [10, 11] [(4, 3, 4)]) σ0 y0 → zpc (k377 y0 y1) (fun r => (zQ [] [(3, 69, 88), (3, 98, 170), (3, 172, 279)] [10, 11] [(4, 3, 4)]) σ0 (r))) {σ : zSt} {x5 : Int64} (h : (zQ [] [(3, 69, 88), (3, 98, 170), (3, 172, 279)] [10, 11] [(4, 3, 4)]) σ0 σ) : zpc (fX12_once_377_body k377 σ x5) (fun r => (zQ [] [(3, 69, 88), (3, 98, 170), (3, 172, 279)] [10, 11] [(4, 3, 4)]) σ0 (r)) := by
  unfold fX12_once_377_body
  exact zpc_ck (zpc_ck (zpc_if (fun _ => zpc_some h) (fun _ => zpc_bu (fW_fX12_mixed h) (fun σ1 hσ1 => zpc_bv (fun v2 _ => hk377 _ _ hσ1)))))
theorem fW_fX12_once_377 {σ0 : zSt} : ∀ (n : Nat) (y0 : zSt) (y1 : Int64), (zQ [] [(3, 69, 88), (3, 98, 170), (3, 172, 279)] [10, 11] [(4, 3, 4)]) σ0 y0 → zpc (fX12_once_377 n y0 y1) (fun r => (zQ [] [(3, 69, 88), (3, 98, 170), (3, 172, 279)] [10, 11] [(4, 3, 4)]) σ0 (r)) := by
  intro n
  induction n with
  | zero => intro y0 y1 h; exact zpc_none
  | succ n ih => intro y0 y1 h; exact fW_fX12_once_377_body ih h
theorem fW_fX12_once_341_body {σ0 : zSt} {k341 : zSt → Int64 → Int64 → Option (zSt)} (hk341 : ∀ (y0 : zSt) (y1 : Int64) (y2 : Int64), (zQ [] [(3, 69, 88), (3, 98, 170), (3, 172, 279)] [10, 11] [(4, 3, 4)]) σ0 y0 → zpc (k341 y0 y1 y2) (fun r => (zQ [] [(3, 69, 88), (3, 98, 170), (3, 172, 279)] [10, 11] [(4, 3, 4)]) σ0 (r))) {σ : zSt} {x3 : Int64} {x5 : Int64} (h : (zQ [] [(3, 69, 88), (3, 98, 170), (3, 172, 279)] [10, 11] [(4, 3, 4)]) σ0 σ) : zpc (fX12_once_341_body k341 σ x3 x5) (fun r => (zQ [] [(3, 69, 88), (3, 98, 170), (3, 172, 279)] [10, 11] [(4, 3, 4)]) σ0 (r)) := by
  unfold fX12_once_341_body
  exact zpc_ck (zpc_ck (zpc_if (fun _ => zpc_ck (zpc_bv (fun v3 _ => fW_fX12_once_377 _ _ _ h))) (fun _ => zpc_bu (fW_fX12_waves h) (fun σ4 hσ4 => zpc_bv (fun v5 _ => hk341 _ _ _ hσ4)))))
theorem fW_fX12_once_341 {σ0 : zSt} : ∀ (n : Nat) (y0 : zSt) (y1 : Int64) (y2 : Int64), (zQ [] [(3, 69, 88), (3, 98, 170), (3, 172, 279)] [10, 11] [(4, 3, 4)]) σ0 y0 → zpc (fX12_once_341 n y0 y1 y2) (fun r => (zQ [] [(3, 69, 88), (3, 98, 170), (3, 172, 279)] [10, 11] [(4, 3, 4)]) σ0 (r)) := by
  intro n
  induction n with
  | zero => intro y0 y1 y2 h; exact zpc_none
  | succ n ih => intro y0 y1 y2 h; exact fW_fX12_once_341_body ih h
theorem fW_fX12_once_305_body {σ0 : zSt} {k305 : zSt → Int64 → Int64 → Option (zSt)} (hk305 : ∀ (y0 : zSt) (y1 : Int64) (y2 : Int64), (zQ [] [(3, 69, 88), (3, 98, 170), (3, 172, 279)] [10, 11] [(4, 3, 4)]) σ0 y0 → zpc (k305 y0 y1 y2) (fun r => (zQ [] [(3, 69, 88), (3, 98, 170), (3, 172, 279)] [10, 11] [(4, 3, 4)]) σ0 (r))) {σ : zSt} {x3 : Int64} {x5 : Int64} (h : (zQ [] [(3, 69, 88), (3, 98, 170), (3, 172, 279)] [10, 11] [(4, 3, 4)]) σ0 σ) : zpc (fX12_once_305_body k305 σ x3 x5) (fun r => (zQ [] [(3, 69, 88), (3, 98, 170), (3, 172, 279)] [10, 11] [(4, 3, 4)]) σ0 (r)) := by
  unfold fX12_once_305_body
  exact zpc_ck (zpc_ck (zpc_if (fun _ => zpc_ck (zpc_bv (fun v6 _ => fW_fX12_once_341 _ _ _ _ h))) (fun _ => zpc_bu (fW_fX12_sample h) (fun σ7 hσ7 => zpc_bv (fun v8 _ => hk305 _ _ _ hσ7)))))
theorem fW_fX12_once_305 {σ0 : zSt} : ∀ (n : Nat) (y0 : zSt) (y1 : Int64) (y2 : Int64), (zQ [] [(3, 69, 88), (3, 98, 170), (3, 172, 279)] [10, 11] [(4, 3, 4)]) σ0 y0 → zpc (fX12_once_305 n y0 y1 y2) (fun r => (zQ [] [(3, 69, 88), (3, 98, 170), (3, 172, 279)] [10, 11] [(4, 3, 4)]) σ0 (r)) := by
  intro n
  induction n with
  | zero => intro y0 y1 y2 h; exact zpc_none
  | succ n ih => intro y0 y1 y2 h; exact fW_fX12_once_305_body ih h
theorem fW_fX12_once_298 {σ0 : zSt} {σ : zSt} {x3 : Int64} (h : (zQ [] [(3, 69, 88), (3, 98, 170), (3, 172, 279)] [10, 11] [(4, 3, 4)]) σ0 σ) : zpc (fX12_once_298 σ x3) (fun r => (zQ [] [(3, 69, 88), (3, 98, 170), (3, 172, 279)] [10, 11] [(4, 3, 4)]) σ0 (r)) := by
  unfold fX12_once_298
  exact zpc_ck (zpc_bv (fun v9 _ => fW_fX12_once_305 _ _ _ _ h))
end ZJN16
section ZJN17
theorem fT_fX12_say_2_body {σ0 : zSt} {k2 : zSt → Nat → Int32 → Option (zSt)} (hk2 : ∀ (y0 : zSt) (y1 : Nat) (y2 : Int32), (zQ [26] [(0, 39, 39)] [] []) σ0 y0 → zpc (k2 y0 y1 y2) (fun r => (zQ [26] [(0, 39, 39)] [] []) σ0 (r))) {σ : zSt} {n1 : Nat} {x2 : Int32} (h : (zQ [26] [(0, 39, 39)] [] []) σ0 σ) : zpc (fX12_say_2_body k2 σ n1 x2) (fun r => (zQ [26] [(0, 39, 39)] [] []) σ0 (r)) := by
  unfold fX12_say_2_body
  exact zpc_ck (zpc_if (fun _ => zpc_some h) (fun _ => zpc_ck (zpc_ck (zpc_ck (zpc_bs (zQ.wi h rfl) (fun σ1 hσ1 => zpc_bs (zQ.wi hσ1 rfl) (fun σ2 hσ2 => zpc_bv (fun v3 _ => hk2 _ _ _ hσ2))))))))
theorem fT_fX12_say_2 {σ0 : zSt} : ∀ (n : Nat) (y0 : zSt) (y1 : Nat) (y2 : Int32), (zQ [26] [(0, 39, 39)] [] []) σ0 y0 → zpc (fX12_say_2 n y0 y1 y2) (fun r => (zQ [26] [(0, 39, 39)] [] []) σ0 (r)) := by
  intro n
  induction n with
  | zero => intro y0 y1 y2 h; exact zpc_none
  | succ n ih => intro y0 y1 y2 h; exact fT_fX12_say_2_body ih h
theorem fT_fX12_say {σ0 : zSt} {σ : zSt} {n1 : Nat} (h : (zQ [26] [(0, 39, 39)] [] []) σ0 σ) : zpc (fX12_say σ n1) (fun r => (zQ [26] [(0, 39, 39)] [] []) σ0 (r)) := by
  unfold fX12_say
  exact fT_fX12_say_2 _ _ _ _ h
theorem fT_fX12_hex_49 {σ0 : zSt} {k4 : zSt → Int32 → Int32 → Option (zSt)} (hk4 : ∀ (y0 : zSt) (y1 : Int32) (y2 : Int32), (zQ [26] [(0, 39, 39)] [] []) σ0 y0 → zpc (k4 y0 y1 y2) (fun r => (zQ [26] [(0, 39, 39)] [] []) σ0 (r))) {σ : zSt} {x1 : Int32} {x3 : Int32} {s0 : Int32} {s1 : Int32} (h : (zQ [26] [(0, 39, 39)] [] []) σ0 σ) : zpc (fX12_hex_49 k4 σ x1 x3 s0 s1) (fun r => (zQ [26] [(0, 39, 39)] [] []) σ0 (r)) := by
  unfold fX12_hex_49
  exact zpc_ck (zpc_bs (zQ.wi h rfl) (fun σ1 hσ1 => zpc_bs (zQ.wi hσ1 rfl) (fun σ2 hσ2 => zpc_bv (fun v3 _ => hk4 _ _ _ hσ2))))
theorem fT_fX12_hex_4_body {σ0 : zSt} {k4 : zSt → Int32 → Int32 → Option (zSt)} (hk4 : ∀ (y0 : zSt) (y1 : Int32) (y2 : Int32), (zQ [26] [(0, 39, 39)] [] []) σ0 y0 → zpc (k4 y0 y1 y2) (fun r => (zQ [26] [(0, 39, 39)] [] []) σ0 (r))) {σ : zSt} {x1 : Int32} {x3 : Int32} (h : (zQ [26] [(0, 39, 39)] [] []) σ0 σ) : zpc (fX12_hex_4_body k4 σ x1 x3) (fun r => (zQ [26] [(0, 39, 39)] [] []) σ0 (r)) := by
  unfold fX12_hex_4_body
  exact zpc_if (fun _ => zpc_some h) (fun _ => zpc_bv (fun v4 _ => zpc_if (fun _ => fT_fX12_hex_49 hk4 h) (fun _ => fT_fX12_hex_49 hk4 h)))
theorem fT_fX12_hex_4 {σ0 : zSt} : ∀ (n : Nat) (y0 : zSt) (y1 : Int32) (y2 : Int32), (zQ [26] [(0, 39, 39)] [] []) σ0 y0 → zpc (fX12_hex_4 n y0 y1 y2) (fun r => (zQ [26] [(0, 39, 39)] [] []) σ0 (r)) := by
  intro n
  induction n with
  | zero => intro y0 y1 y2 h; exact zpc_none
  | succ n ih => intro y0 y1 y2 h; exact fT_fX12_hex_4_body ih h
theorem fT_fX12_hex {σ0 : zSt} {σ : zSt} {x1 : Int32} {x2 : Int32} (h : (zQ [26] [(0, 39, 39)] [] []) σ0 σ) : zpc (fX12_hex σ x1 x2) (fun r => (zQ [26] [(0, 39, 39)] [] []) σ0 (r)) := by
  unfold fX12_hex
  exact zpc_bv (fun v5 _ => fT_fX12_hex_4 _ _ _ _ h)
end ZJN17
section ZJN18
theorem ft_fX8_putSign_29 {σ0 : zSt} {σ : zSt} (h : (zQ [45] [(10, 2, 2)] [] []) σ0 σ) : zpc (fX8_putSign_29 σ) (fun r => (zQ [45] [(10, 2, 2)] [] []) σ0 (r)) := by
  unfold fX8_putSign_29
  exact zpc_some h
theorem ft_fX8_putSign {σ0 : zSt} {σ : zSt} {x1 : Int32} (h : (zQ [45] [(10, 2, 2)] [] []) σ0 σ) : zpc (fX8_putSign σ x1) (fun r => (zQ [45] [(10, 2, 2)] [] []) σ0 (r)) := by
  unfold fX8_putSign
  exact zpc_if (fun _ => ft_fX8_putSign_29 h) (fun _ => zpc_ck (zpc_bs (zQ.wi h rfl) (fun σ1 hσ1 => zpc_bs (zQ.wi hσ1 rfl) (fun σ2 hσ2 => ft_fX8_putSign_29 hσ2))))
theorem ft_fX8_putByte {σ0 : zSt} {σ : zSt} {x1 : Int32} (h : (zQ [45] [(10, 2, 2)] [] []) σ0 σ) : zpc (fX8_putByte σ x1) (fun r => (zQ [45] [(10, 2, 2)] [] []) σ0 (r)) := by
  unfold fX8_putByte
  exact zpc_ck (zpc_ck (zpc_bu (ft_fX8_putSign h) (fun σ1 hσ1 => zpc_ck (zpc_ck (zpc_bu (ft_fX8_putSign hσ1) (fun σ2 hσ2 => zpc_some hσ2))))))
end ZJN18
section ZJN19
/-! ANSWERS of both sides, from states whose cells belong together -/
theorem zq_lt {x c : Int32} {a b k : Int} (h : zr a b x) (hc : c.toInt = k) (l : k ≤ a) : ¬ x < c := fun q => by
  have := Int32.lt_iff_toInt_lt.mp q; have := h.1; omega
theorem zq_ltt {x c : Int32} {a b k : Int} (h : zr a b x) (hc : c.toInt = k) (l : b < k) : x < c := Int32.lt_iff_toInt_lt.mpr (by have := h.2; omega)
theorem zq_le {x c : Int32} {a b k : Int} (h : zr a b x) (hc : c.toInt = k) (l : b ≤ k) : x ≤ c := Int32.le_iff_toInt_le.mpr (by have := h.2; omega)
theorem zq_lef {x c : Int32} {a b k : Int} (h : zr a b x) (hc : c.toInt = k) (l : k < a) : ¬ x ≤ c := fun q => by
  have := Int32.le_iff_toInt_le.mp q; have := h.1; omega
theorem zq_ge {x c : Int32} {a b k : Int} (h : zr a b x) (hc : c.toInt = k) (l : k ≤ a) : c ≤ x := Int32.le_iff_toInt_le.mpr (by have := h.1; omega)
theorem zq_gef {x c : Int32} {a b k : Int} (h : zr a b x) (hc : c.toInt = k) (l : b < k) : ¬ c ≤ x := fun q => by
  have := Int32.le_iff_toInt_le.mp q; have := h.2; omega
theorem zq_ne {x c : Int32} {a b k : Int} (h : zr a b x) (hc : c.toInt = k) (l : k < a ∨ b < k) : ¬ x = c := fun q => by
  subst q; have := h.1; have := h.2; omega
theorem zr_lt {x c : Int32} {a b k : Int} (h : zr a b x) (hc : c.toInt = k) (q : x < c) : zr a (k - 1) x := ⟨h.1, by have := Int32.lt_iff_toInt_lt.mp q; omega⟩
theorem zr_nlt {x c : Int32} {a b k : Int} (h : zr a b x) (hc : c.toInt = k) (q : ¬ x < c) : zr k b x := ⟨by have := Int32.le_iff_toInt_le.mp (z_nlt q); omega, h.2⟩
theorem zr_le {x c : Int32} {a b k : Int} (h : zr a b x) (hc : c.toInt = k) (q : x ≤ c) : zr a k x := ⟨h.1, by have := Int32.le_iff_toInt_le.mp q; omega⟩
theorem zr_nle {x c : Int32} {a b k : Int} (h : zr a b x) (hc : c.toInt = k) (q : ¬ x ≤ c) : zr (k + 1) b x := ⟨by have := Int32.lt_iff_toInt_lt.mp (z_nle q); omega, h.2⟩
theorem zr_eqc {x c : Int32} {k : Int} (h : zr k k x) (hc : c.toInt = k) : x = c := Int32.toInt_inj.mp (by have := h.1; have := h.2; omega)
theorem z_nin {x : Int32} {a b : Int} {l h : Int64} (w : x.toInt64.toInt < l.toInt ∨ h.toInt < x.toInt64.toInt) (hl : l.toInt = a) (hh : h.toInt = b) : x.toInt < a ∨ b < x.toInt := by
  rw [Int32.toInt_toInt64, hl, hh] at w
  exact w
/-- a cell that lies behind another by a constant -/
theorem z_off {x c : Int32} {k : Nat} {a b : Int} (h : zr a b x) (hc : c.toInt = k) (l : 0 ≤ a ∧ b + k ≤ 2147483647) : (c + x).toNatClampNeg = k + x.toNatClampNeg := by
  have t := z_tadd (x := c) (y := x) (a := k) (b := k) ⟨by omega, by omega⟩ h ⟨by omega, by omega⟩
  have h1 := h.1
  have k1 := z_clamp (x := c + x) (by omega)
  have k2 := z_clamp (x := x) (by omega)
  omega
noncomputable def zAns (K : Nat) (r : zRi) (b : zSt × Int32) : Prop := (∃ s, r = Sum.inr (s, K) ∧ zTh 1 b.1) ∨ (∃ s, r = Sum.inl (s, b.2) ∧ zTh 0 b.1)
noncomputable def zAnl (K : Nat) (r : zRl) (b : zSt × Int64) : Prop := (∃ s, r = Sum.inr (s, K) ∧ zTh 1 b.1) ∨ (∃ s, r = Sum.inl (s, b.2) ∧ zTh 0 b.1)
noncomputable def zCv (a : zHs × Int32) (b : zSt × Int32) : Prop := zgi b.1 0 0 = a.2 ∧ (a.2 = 0 → (a.1.1 0).toInt = b.2.toInt)
noncomputable def zCl (a : zHs × Int32) (b : zSt × Int64) : Prop := zgi b.1 0 0 = a.2 ∧ (a.2 = 0 → (a.1.1 0).toInt = b.2.toInt)
theorem zAns.h {K : Nat} {o : Nat → Int64} {q : Option zRi} {p : Option (zSt × Int32)} (h : zp2 q p (zAns K)) : zp2 (zbr q (zhi o (zh1 K))) p zCv := by
  intro a c ea ec
  cases e : q with
  | none => rw [e] at ea; cases ea
  | some r =>
    have i := h r c e ec
    rw [e] at ea
    have ea : zhi o (zh1 K) r = some a := ea
    rcases i with ⟨s, e1, t⟩ | ⟨s, e1, t⟩
    · subst e1
      have ea : (if K = K then some ((o, s), (1 : Int32)) else none) = some a := ea
      rw [if_pos rfl] at ea
      cases ea
      exact ⟨t, fun z => absurd (show (1 : Int32) = 0 from z) (by decide)⟩
    · subst e1
      have ea : some ((vp_updL o 0 c.2.toInt64, s), (0 : Int32)) = some a := ea
      cases ea
      refine ⟨t, fun _ => ?_⟩
      show (if (0 : Nat) = 0 then c.2.toInt64 else o 0).toInt = _
      rw [if_pos rfl, Int32.toInt_toInt64]
theorem zAnl.h {K : Nat} {o : Nat → Int64} {q : Option zRl} {p : Option (zSt × Int64)} (h : zp2 q p (zAnl K)) : zp2 (zbr q (zhl o (zh1 K))) p zCl := by
  intro a c ea ec
  cases e : q with
  | none => rw [e] at ea; cases ea
  | some r =>
    have i := h r c e ec
    rw [e] at ea
    have ea : zhl o (zh1 K) r = some a := ea
    rcases i with ⟨s, e1, t⟩ | ⟨s, e1, t⟩
    · subst e1
      have ea : (if K = K then some ((o, s), (1 : Int32)) else none) = some a := ea
      rw [if_pos rfl] at ea
      cases ea
      exact ⟨t, fun z => absurd (show (1 : Int32) = 0 from z) (by decide)⟩
    · subst e1
      have ea : some ((vp_updL o 0 c.2, s), (0 : Int32)) = some a := ea
      cases ea
      exact ⟨t, fun _ => rfl⟩
/-! cells that belong together -/
noncomputable def zRk (σ μ : zSt) : Prop := zr 0 2 (μ.1 0 3) ∧ σ.1 0 0 = (if μ.1 0 3 = 2 then 1 else 0) ∧ σ.1 2 0 = (if μ.1 0 3 = 2 then 1 else 0) ∧ σ.1 3 1 = (if μ.1 0 3 = 2 then 1 else 0) ∧ σ.1 6 0 = (if μ.1 0 3 = 2 then 1 else 0) ∧ σ.1 2 1 = (if μ.1 0 3 = 1 then 313 else 262)
noncomputable def zRp (σ μ : zSt) : Prop := σ.1 34 0 = μ.1 3 33 ∧ (∀ j : Nat, 1 ≤ j → j ≤ 5 → σ.1 34 j = μ.1 3 (36 + j)) ∧ σ.1 34 6 = μ.1 3 35 ∧ (∀ j : Nat, j ≤ 4 → σ.1 34 (7 + j) = μ.1 3 (42 + j)) ∧ zr 0 255 (μ.1 3 33) ∧ (∀ j : Nat, j ≤ 1 → zr 0 63 (μ.1 3 (42 + j))) ∧ (∀ j : Nat, j ≤ 2 → zr 0 1 (μ.1 3 (44 + j)))
noncomputable def zRv (σ μ : zSt) : Prop := (∀ j : Nat, j ≤ 16 → σ.1 23 j = μ.1 3 (47 + j)) ∧ (∀ j : Nat, j ≤ 3 → σ.1 23 (18 + j) = μ.1 3 (64 + j)) ∧ σ.1 23 26 = μ.1 3 68 ∧ (∀ j : Nat, j < 64 → σ.1 23 (32 + j) = μ.1 8 j &&& 255) ∧ (∀ j : Nat, j < 16384 → σ.1 21 j = μ.1 7 j &&& 255) ∧ (∀ j : Nat, j ≤ 10 → zr 0 255 (μ.1 3 (47 + j))) ∧ zr 0 255 (μ.1 3 62) ∧ zr 0 312 (μ.1 3 66) ∧ zr 0 227 (μ.1 3 67)
noncomputable def zRs (σ μ : zSt) : Prop := (∀ j : Nat, j ≤ 17 → σ.1 30 j = μ.1 3 (69 + j)) ∧ σ.1 30 18 = μ.1 3 34
noncomputable def zRw (σ μ : zSt) : Prop := (∀ j : Nat, j < 64 → σ.1 32 j = μ.1 3 (98 + j)) ∧ σ.1 32 68 = μ.1 3 162 ∧ σ.1 32 64 = μ.1 3 163 ∧ σ.1 32 65 = μ.1 3 164 ∧ σ.1 32 67 = μ.1 3 165 ∧ (σ.1 32 66).toInt = (μ.2 4 4).toInt ∧ 0 ≤ (μ.2 4 4).toInt ∧ (∀ q r : Nat, q < 18 → r < 6 → σ.1 32 (128 + 8 * q + r) = μ.1 3 (172 + 6 * q + r))
noncomputable def zRg (o v a b w : Nat) (σ μ : zSt) : Prop := σ.1 o 2 = μ.1 3 a ∧ σ.1 o 3 = μ.1 3 b ∧ (∀ j : Nat, j < 4096 → σ.2 v j = μ.2 w j) ∧ zr 0 4095 (μ.1 3 a) ∧ zr 0 4096 (μ.1 3 b)
noncomputable def zRc (σ μ : zSt) : Prop := (∀ j : Nat, j < 4 → σ.2 38 j = μ.2 4 j) ∧ (∀ j : Nat, j < 3 → (σ.2 38 (4 + j)).toInt = (μ.1 3 (166 + j)).toInt) ∧ zRg 11 46 88 87 10 σ μ ∧ zRg 12 48 170 169 11 σ μ
noncomputable def zRt (σ μ : zSt) : Prop := 0 ≤ (μ.2 0 30).toInt ∧ (μ.2 0 30).toInt ≤ 1000000000000 ∧ (σ.1 9 5).toInt = (μ.2 0 30).toInt % 32 ∧ (∀ j : Nat, j < 32 → ((j : Int) < (μ.2 0 30).toInt → σ.1 44 j = μ.1 21 j) ∧ ((μ.2 0 30).toInt ≤ (j : Int) → σ.1 44 j = -1))
section ZANS
variable {σ μ : zSt} {o : Nat → Int64}
theorem v_register (h : zCp σ μ) {x : Int32} : zp2 (fX11_register σ x) (fX12_register μ x) (zAns 1) := by
  unfold fX11_register fX12_register fX11_register_10 fX12_register_18 fX12_register_35
  refine zp2_within (fun w1 w2 => ?_) (fun w => ?_)
  · have hx := z_wir w1 w2 (zrl_c (lo := 0) (hi := 0) (by decide)) (zrl_c (lo := 26) (hi := 26) (by decide))
    refine zp2_ifr (fun q => absurd q (by decide)) (fun _ => zp2_fails0 (fun μ1 e1 => ?_))
    refine zp2_ifr (fun _ => zp2_ckr ?_) (fun q => absurd rfl q)
    refine zp2_ifl (fun q => absurd q (zq_lt hx rfl (by decide))) (fun _ => zp2_ifl (fun _ => ?_) (fun q => absurd (zq_le hx rfl (by decide)) q))
    refine zp2_bil (P := fun r => r.1 = σ ∧ r.2 = σ.1 36 x.toNatClampNeg) ?_ (fun σ1 v q => ?_)
    · unfold fX5_value fX5_value_19 fX5_value_20
      exact zpc_if (fun q => absurd q (zq_lt hx rfl (by decide))) (fun _ => zpc_if (fun q => absurd q (zq_gef hx rfl (by decide))) (fun _ => zpc_ck (zpc_some ⟨rfl, rfl⟩)))
    · obtain ⟨q1, q2⟩ := q
      have q2 : v = σ.1 36 x.toNatClampNeg := q2
      refine zp2_some (Or.inr ⟨σ1, ?_, by rw [e1]; exact zTh_own⟩)
      have kx := z_clamp hx.1
      have h2 := hx.2
      rw [q2, h.1 _ (by omega), e1]
      show _ = Sum.inl (σ1, (zsi μ 0 0 0).1 3 x.toNatClampNeg)
      rw [zsi_ne (by decide)]
  · have hn := z_nin w (a := 0) (b := 26) rfl rfl
    refine zp2_ifr (fun _ => zp2_fails1 (fun μ1 e1 => ?_)) (fun q => absurd rfl q)
    refine zp2_ifr (fun q => absurd q (by decide)) (fun _ => ?_)
    have c26 : (26 : Int32).toInt = 26 := rfl
    have c0 : (0 : Int32).toInt = 0 := rfl
    refine zp2_ifl (fun _ => zp2_some (Or.inl ⟨σ, rfl, by rw [e1]; exact zTh_own⟩)) (fun q => zp2_ifl (fun q1 => ?_) (fun _ => zp2_some (Or.inl ⟨σ, rfl, by rw [e1]; exact zTh_own⟩)))
    have r1 := Int32.le_iff_toInt_le.mp (z_nlt q)
    have r2 := Int32.le_iff_toInt_le.mp q1
    exfalso; omega
theorem v_sound (h : zRs σ μ) {x : Int32} : zp2 (fX11_sound σ x) (fX12_sound μ x) (zAns 1) := by
  unfold fX11_sound fX12_sound fX11_sound_10 fX12_sound_18 fX12_sound_52
  refine zp2_within (fun w1 w2 => ?_) (fun w => ?_)
  · have hx := z_wir w1 w2 (zrl_c (lo := 0) (hi := 0) (by decide)) (zrl_c (lo := 18) (hi := 18) (by decide))
    refine zp2_ifr (fun q => absurd q (by decide)) (fun _ => zp2_fails0 (fun μ1 e1 => ?_))
    have t1 : zTh 0 μ1 := by rw [e1]; exact zTh_own
    have m3 : μ1.1 3 = μ.1 3 := by rw [e1]; exact zsi_ne (by decide)
    refine zp2_ifr (fun _ => ?_) (fun q => absurd rfl q)
    refine zp2_ifl (fun q => absurd q (zq_lt hx rfl (by decide))) (fun _ => zp2_ifl (fun _ => ?_) (fun q => absurd (zq_le hx rfl (by decide)) q))
    refine zp2_bil (P := fun r => r.1 = σ ∧ r.2 = σ.1 30 x.toNatClampNeg) ?_ (fun σ1 v q => ?_)
    · unfold fX7_value fX7_value_19 fX7_value_20
      exact zpc_if (fun q => absurd q (zq_lt hx rfl (by decide))) (fun _ => zpc_if (fun q => absurd q (zq_gef hx rfl (by decide))) (fun _ => zpc_ck (zpc_some ⟨rfl, rfl⟩)))
    · obtain ⟨q1, q2⟩ := q
      have q2 : v = σ.1 30 x.toNatClampNeg := q2
      have kx := z_clamp hx.1
      have h2 := hx.2
      refine zp2_ifr (fun e => zp2_ckr (zp2_some (Or.inr ⟨σ1, ?_, t1⟩))) (fun e => zp2_ckr (zp2_some (Or.inr ⟨σ1, ?_, t1⟩)))
      · subst e
        rw [q2]
        show Sum.inl (σ1, σ.1 30 18) = Sum.inl (σ1, μ1.1 3 34)
        rw [m3, h.2]
      · have ne : ¬ x.toInt = 18 := fun r => e (Int32.toInt_inj.mp r)
        rw [q2]
        show Sum.inl (σ1, σ.1 30 x.toNatClampNeg) = Sum.inl (σ1, μ1.1 3 (69 + x).toNatClampNeg)
        rw [m3, z_off hx (k := 69) rfl (by decide), h.1 _ (by omega)]
  · have hn := z_nin w (a := 0) (b := 18) rfl rfl
    refine zp2_ifr (fun _ => zp2_fails1 (fun μ1 e1 => ?_)) (fun q => absurd rfl q)
    refine zp2_ifr (fun q => absurd q (by decide)) (fun _ => ?_)
    have c18 : (18 : Int32).toInt = 18 := rfl
    have c0 : (0 : Int32).toInt = 0 := rfl
    refine zp2_ifl (fun _ => zp2_some (Or.inl ⟨σ, rfl, by rw [e1]; exact zTh_own⟩)) (fun q => zp2_ifl (fun q1 => ?_) (fun _ => zp2_some (Or.inl ⟨σ, rfl, by rw [e1]; exact zTh_own⟩)))
    have r1 := Int32.le_iff_toInt_le.mp (z_nlt q)
    have r2 := Int32.le_iff_toInt_le.mp q1
    exfalso; omega
theorem v_battery (h : zMe σ μ) {x : Int32} : zp2 (fX11_battery σ x) (fX12_battery μ x) (zAns 3) := by
  unfold fX11_battery fX12_battery fX11_battery_11 fX12_battery_18 fX12_battery_39
  refine zp2_within (fun w1 w2 => ?_) (fun w => ?_)
  · have hx := z_wir w1 w2 (zrl_c (lo := 0) (hi := 0) (by decide)) (zrl_c (lo := 32767) (hi := 32767) (by decide))
    refine zp2_ifr (fun q => absurd q (by decide)) (fun _ => zp2_fails0 (fun μ1 e1 => ?_))
    have t1 : zTh 0 μ1 := by rw [e1]; exact zTh_own
    have m6 : μ1.1 6 = μ.1 6 := by rw [e1]; exact zsi_ne (by decide)
    refine zp2_ifr (fun _ => zp2_ckr ?_) (fun q => absurd rfl q)
    refine zp2_ifl (fun q => absurd q (zq_lt hx rfl (by decide))) (fun _ => zp2_ifl (fun _ => ?_) (fun q => absurd (zq_ltt hx rfl (by decide)) q))
    refine zp2_bil (P := fun r => r.1 = σ ∧ r.2 = σ.1 17 x.toNatClampNeg) ?_ (fun σ1 v q => ?_)
    · unfold fX2_batteryByte
      have e : x &&& 32767 = x := Int32.toInt_inj.mp (by rw [z_mask (k := 15) hx.1 rfl (by decide)]; have := hx.1; have := hx.2; show x.toInt % 32768 = _; omega)
      rw [e]
      exact zpc_ck (zpc_some ⟨rfl, rfl⟩)
    · obtain ⟨q1, q2⟩ := q
      have q2 : v = σ.1 17 x.toNatClampNeg := q2
      have kx := z_clamp hx.1
      have h2 := hx.2
      refine zp2_some (Or.inr ⟨σ1, ?_, t1⟩)
      rw [q2]
      show Sum.inl (σ1, σ.1 17 x.toNatClampNeg) = Sum.inl (σ1, μ1.1 6 x.toNatClampNeg &&& 255)
      rw [m6, h.2.1 _ (by omega)]
  · have hn := z_nin w (a := 0) (b := 32767) rfl rfl
    refine zp2_ifr (fun _ => zp2_fails1 (fun μ1 e1 => ?_)) (fun q => absurd rfl q)
    refine zp2_ifr (fun q => absurd q (by decide)) (fun _ => ?_)
    have c18 : (32768 : Int32).toInt = 32768 := rfl
    have c0 : (0 : Int32).toInt = 0 := rfl
    refine zp2_ifl (fun _ => zp2_some (Or.inl ⟨σ, rfl, by rw [e1]; exact zTh_own⟩)) (fun q => zp2_ifl (fun q1 => ?_) (fun _ => zp2_some (Or.inl ⟨σ, rfl, by rw [e1]; exact zTh_own⟩)))
    have r1 := Int32.le_iff_toInt_le.mp (z_nlt q)
    have r2 := Int32.lt_iff_toInt_lt.mp q1
    exfalso; omega
/-- peek: no throw on either side -/
theorem v_peek (h : zMe σ μ) (hr : zMr σ μ) {x : Int32} : zp2 (fX11_peek σ x) (fX12_peek μ x) (fun r r' => r.2 = r'.2) := by
  unfold fX11_peek fX12_peek
  refine zp2_bvr (fun μ1 e1 => ?_)
  have h1 : zMe σ μ1 := by
    obtain ⟨a1, a2, a3, a4, a5, a6⟩ := h
    have m : ∀ k, ¬ k = 0 → μ1.1 k = μ.1 k := fun k hk => by rw [e1]; exact zsi_ne hk
    have m0 : ∀ j, ¬ j = 0 → μ1.1 0 j = μ.1 0 j := fun j hj => by rw [e1]; exact zsi_nj hj
    refine ⟨fun j hj => by rw [m 5 (by decide)]; exact a1 j hj, fun j hj => by rw [m 6 (by decide)]; exact a2 j hj, fun j hj => by rw [m 3 (by decide)]; exact a3 j hj, by rw [m 3 (by decide)]; exact a4, a5.keep (fun _ _ => rfl) rfl (fun j hj => m0 j (fun r => by subst r; revert hj; decide)) (m 2 (by decide)), ?_⟩
    unfold zFil
    rw [m 2 (by decide), m0 5 (by decide), m0 6 (by decide)]
    exact a6
  have hr1 : zMr σ μ1 := by
    obtain ⟨b1, b2, b3, b4, b5, b6⟩ := hr
    have m : ∀ k, ¬ k = 0 → μ1.1 k = μ.1 k := fun k hk => by rw [e1]; exact zsi_ne hk
    have m0 : ∀ j, ¬ j = 0 → μ1.1 0 j = μ.1 0 j := fun j hj => by rw [e1]; exact zsi_nj hj
    exact ⟨b1, b2, by rw [m0 6 (by decide)]; exact b3, by rw [m0 7 (by decide)]; exact b4, by rw [m0 7 (by decide), m0 6 (by decide)]; exact b5, fun j j1 j2 => by rw [m 3 (by decide)]; exact b6 j j1 j2⟩
  rw [z_rdc]
  exact zp2_bii (z2_read h1 hr1) (fun _ _ _ _ q => zp2_some q.2.2)
end ZANS
end ZJN19
section ZJN20
/-! bits, modes, heights; answers at literal arguments -/
theorem z_byteF {b : Int32} (h : zr 0 255 b) : ∃ i : Fin 256, b = Int32.ofNat i.val := by
  obtain ⟨h0, h1⟩ := h
  obtain ⟨i, hi⟩ : ∃ i : Nat, b.toInt = i := ⟨b.toInt.toNat, by omega⟩
  exact ⟨⟨i, by omega⟩, z_ofN hi⟩
theorem z_b0f : ∀ i : Fin 256, ((Int32.ofNat i.val) >>> ((0 : Int32) &&& 31)) &&& 1 = if (Int32.ofNat i.val) &&& 1 = 0 then 0 else 1 := by decide +kernel
theorem z_b0 {b : Int32} (h : zr 0 255 b) : (b >>> ((0 : Int32) &&& 31)) &&& 1 = if b &&& 1 = 0 then 0 else 1 := by
  obtain ⟨i, e⟩ := z_byteF h
  rw [e]
  exact z_b0f i
theorem z_b1f : ∀ i : Fin 256, ((Int32.ofNat i.val) >>> ((1 : Int32) &&& 31)) &&& 1 = if (Int32.ofNat i.val) &&& 2 = 0 then 0 else 1 := by decide +kernel
theorem z_b1 {b : Int32} (h : zr 0 255 b) : (b >>> ((1 : Int32) &&& 31)) &&& 1 = if b &&& 2 = 0 then 0 else 1 := by
  obtain ⟨i, e⟩ := z_byteF h
  rw [e]
  exact z_b1f i
theorem z_b2f : ∀ i : Fin 256, ((Int32.ofNat i.val) >>> ((2 : Int32) &&& 31)) &&& 1 = if (Int32.ofNat i.val) &&& 4 = 0 then 0 else 1 := by decide +kernel
theorem z_b2 {b : Int32} (h : zr 0 255 b) : (b >>> ((2 : Int32) &&& 31)) &&& 1 = if b &&& 4 = 0 then 0 else 1 := by
  obtain ⟨i, e⟩ := z_byteF h
  rw [e]
  exact z_b2f i
theorem z_b3f : ∀ i : Fin 256, ((Int32.ofNat i.val) >>> ((3 : Int32) &&& 31)) &&& 1 = if (Int32.ofNat i.val) &&& 8 = 0 then 0 else 1 := by decide +kernel
theorem z_b3 {b : Int32} (h : zr 0 255 b) : (b >>> ((3 : Int32) &&& 31)) &&& 1 = if b &&& 8 = 0 then 0 else 1 := by
  obtain ⟨i, e⟩ := z_byteF h
  rw [e]
  exact z_b3f i
theorem z_b4f : ∀ i : Fin 256, ((Int32.ofNat i.val) >>> ((4 : Int32) &&& 31)) &&& 1 = if (Int32.ofNat i.val) &&& 16 = 0 then 0 else 1 := by decide +kernel
theorem z_b4 {b : Int32} (h : zr 0 255 b) : (b >>> ((4 : Int32) &&& 31)) &&& 1 = if b &&& 16 = 0 then 0 else 1 := by
  obtain ⟨i, e⟩ := z_byteF h
  rw [e]
  exact z_b4f i
theorem z_b5f : ∀ i : Fin 256, ((Int32.ofNat i.val) >>> ((5 : Int32) &&& 31)) &&& 1 = if (Int32.ofNat i.val) &&& 32 = 0 then 0 else 1 := by decide +kernel
theorem z_b5 {b : Int32} (h : zr 0 255 b) : (b >>> ((5 : Int32) &&& 31)) &&& 1 = if b &&& 32 = 0 then 0 else 1 := by
  obtain ⟨i, e⟩ := z_byteF h
  rw [e]
  exact z_b5f i
theorem z_b6f : ∀ i : Fin 256, ((Int32.ofNat i.val) >>> ((6 : Int32) &&& 31)) &&& 1 = if (Int32.ofNat i.val) &&& 64 = 0 then 0 else 1 := by decide +kernel
theorem z_b6 {b : Int32} (h : zr 0 255 b) : (b >>> ((6 : Int32) &&& 31)) &&& 1 = if b &&& 64 = 0 then 0 else 1 := by
  obtain ⟨i, e⟩ := z_byteF h
  rw [e]
  exact z_b6f i
theorem z_b7f : ∀ i : Fin 256, ((Int32.ofNat i.val) >>> ((7 : Int32) &&& 31)) &&& 1 = if (Int32.ofNat i.val) &&& 128 = 0 then 0 else 1 := by decide +kernel
theorem z_b7 {b : Int32} (h : zr 0 255 b) : (b >>> ((7 : Int32) &&& 31)) &&& 1 = if b &&& 128 = 0 then 0 else 1 := by
  obtain ⟨i, e⟩ := z_byteF h
  rw [e]
  exact z_b7f i
theorem z_s7f : ∀ i : Fin 256, (127 < Int32.ofNat i.val ↔ ¬ (Int32.ofNat i.val) &&& 128 = 0) := by decide +kernel
theorem z_s7 {b : Int32} (h : zr 0 255 b) : 127 < b ↔ ¬ b &&& 128 = 0 := by
  obtain ⟨i, e⟩ := z_byteF h
  rw [e]
  exact z_s7f i
theorem z_46f : ∀ i : Fin 256, ((Int32.ofNat i.val) &&& 6 = 6 ↔ (¬ (Int32.ofNat i.val) &&& 4 = 0 ∧ ¬ (Int32.ofNat i.val) &&& 2 = 0)) := by decide +kernel
theorem z_46 {b : Int32} (h : zr 0 255 b) : b &&& 6 = 6 ↔ (¬ b &&& 4 = 0 ∧ ¬ b &&& 2 = 0) := by
  obtain ⟨i, e⟩ := z_byteF h
  rw [e]
  exact z_46f i
theorem z_24f : ∀ i : Fin 256, ((Int32.ofNat i.val) &&& 24 = 8 ↔ ((Int32.ofNat i.val) &&& 16 = 0 ∧ ¬ (Int32.ofNat i.val) &&& 8 = 0)) ∧ ((Int32.ofNat i.val) &&& 24 = 16 ↔ (¬ (Int32.ofNat i.val) &&& 16 = 0 ∧ (Int32.ofNat i.val) &&& 8 = 0)) := by decide +kernel
theorem z_24 {b : Int32} (h : zr 0 255 b) : (b &&& 24 = 8 ↔ (b &&& 16 = 0 ∧ ¬ b &&& 8 = 0)) ∧ (b &&& 24 = 16 ↔ (¬ b &&& 16 = 0 ∧ b &&& 8 = 0)) := by
  obtain ⟨i, e⟩ := z_byteF h
  rw [e]
  exact z_24f i
theorem p_bit_0_1 {μ : zSt} (h : zr 0 255 (μ.1 3 47)) : zpc (fX12_bit μ 0 1) (fun x => x = (μ, if μ.1 3 47 &&& 2 = 0 then 0 else 1)) := by
  unfold fX12_bit
  refine zpc_ck (zpc_some ?_)
  show (μ, (μ.1 3 47 >>> ((1 : Int32) &&& 31)) &&& 1) = _
  rw [z_b1 h]
theorem p_bit_0_2 {μ : zSt} (h : zr 0 255 (μ.1 3 47)) : zpc (fX12_bit μ 0 2) (fun x => x = (μ, if μ.1 3 47 &&& 4 = 0 then 0 else 1)) := by
  unfold fX12_bit
  refine zpc_ck (zpc_some ?_)
  show (μ, (μ.1 3 47 >>> ((2 : Int32) &&& 31)) &&& 1) = _
  rw [z_b2 h]
theorem p_bit_0_3 {μ : zSt} (h : zr 0 255 (μ.1 3 47)) : zpc (fX12_bit μ 0 3) (fun x => x = (μ, if μ.1 3 47 &&& 8 = 0 then 0 else 1)) := by
  unfold fX12_bit
  refine zpc_ck (zpc_some ?_)
  show (μ, (μ.1 3 47 >>> ((3 : Int32) &&& 31)) &&& 1) = _
  rw [z_b3 h]
theorem p_bit_0_4 {μ : zSt} (h : zr 0 255 (μ.1 3 47)) : zpc (fX12_bit μ 0 4) (fun x => x = (μ, if μ.1 3 47 &&& 16 = 0 then 0 else 1)) := by
  unfold fX12_bit
  refine zpc_ck (zpc_some ?_)
  show (μ, (μ.1 3 47 >>> ((4 : Int32) &&& 31)) &&& 1) = _
  rw [z_b4 h]
theorem p_bit_0_5 {μ : zSt} (h : zr 0 255 (μ.1 3 47)) : zpc (fX12_bit μ 0 5) (fun x => x = (μ, if μ.1 3 47 &&& 32 = 0 then 0 else 1)) := by
  unfold fX12_bit
  refine zpc_ck (zpc_some ?_)
  show (μ, (μ.1 3 47 >>> ((5 : Int32) &&& 31)) &&& 1) = _
  rw [z_b5 h]
theorem p_bit_0_6 {μ : zSt} (h : zr 0 255 (μ.1 3 47)) : zpc (fX12_bit μ 0 6) (fun x => x = (μ, if μ.1 3 47 &&& 64 = 0 then 0 else 1)) := by
  unfold fX12_bit
  refine zpc_ck (zpc_some ?_)
  show (μ, (μ.1 3 47 >>> ((6 : Int32) &&& 31)) &&& 1) = _
  rw [z_b6 h]
theorem p_bit_0_7 {μ : zSt} (h : zr 0 255 (μ.1 3 47)) : zpc (fX12_bit μ 0 7) (fun x => x = (μ, if μ.1 3 47 &&& 128 = 0 then 0 else 1)) := by
  unfold fX12_bit
  refine zpc_ck (zpc_some ?_)
  show (μ, (μ.1 3 47 >>> ((7 : Int32) &&& 31)) &&& 1) = _
  rw [z_b7 h]
theorem p_bit_1_0 {μ : zSt} (h : zr 0 255 (μ.1 3 48)) : zpc (fX12_bit μ 1 0) (fun x => x = (μ, if μ.1 3 48 &&& 1 = 0 then 0 else 1)) := by
  unfold fX12_bit
  refine zpc_ck (zpc_some ?_)
  show (μ, (μ.1 3 48 >>> ((0 : Int32) &&& 31)) &&& 1) = _
  rw [z_b0 h]
theorem p_bit_1_1 {μ : zSt} (h : zr 0 255 (μ.1 3 48)) : zpc (fX12_bit μ 1 1) (fun x => x = (μ, if μ.1 3 48 &&& 2 = 0 then 0 else 1)) := by
  unfold fX12_bit
  refine zpc_ck (zpc_some ?_)
  show (μ, (μ.1 3 48 >>> ((1 : Int32) &&& 31)) &&& 1) = _
  rw [z_b1 h]
theorem p_bit_1_3 {μ : zSt} (h : zr 0 255 (μ.1 3 48)) : zpc (fX12_bit μ 1 3) (fun x => x = (μ, if μ.1 3 48 &&& 8 = 0 then 0 else 1)) := by
  unfold fX12_bit
  refine zpc_ck (zpc_some ?_)
  show (μ, (μ.1 3 48 >>> ((3 : Int32) &&& 31)) &&& 1) = _
  rw [z_b3 h]
theorem p_bit_1_4 {μ : zSt} (h : zr 0 255 (μ.1 3 48)) : zpc (fX12_bit μ 1 4) (fun x => x = (μ, if μ.1 3 48 &&& 16 = 0 then 0 else 1)) := by
  unfold fX12_bit
  refine zpc_ck (zpc_some ?_)
  show (μ, (μ.1 3 48 >>> ((4 : Int32) &&& 31)) &&& 1) = _
  rw [z_b4 h]
theorem p_bit_1_5 {μ : zSt} (h : zr 0 255 (μ.1 3 48)) : zpc (fX12_bit μ 1 5) (fun x => x = (μ, if μ.1 3 48 &&& 32 = 0 then 0 else 1)) := by
  unfold fX12_bit
  refine zpc_ck (zpc_some ?_)
  show (μ, (μ.1 3 48 >>> ((5 : Int32) &&& 31)) &&& 1) = _
  rw [z_b5 h]
theorem p_bit_1_6 {μ : zSt} (h : zr 0 255 (μ.1 3 48)) : zpc (fX12_bit μ 1 6) (fun x => x = (μ, if μ.1 3 48 &&& 64 = 0 then 0 else 1)) := by
  unfold fX12_bit
  refine zpc_ck (zpc_some ?_)
  show (μ, (μ.1 3 48 >>> ((6 : Int32) &&& 31)) &&& 1) = _
  rw [z_b6 h]
theorem p_bit_3_7 {μ : zSt} (h : zr 0 255 (μ.1 3 50)) : zpc (fX12_bit μ 3 7) (fun x => x = (μ, if μ.1 3 50 &&& 128 = 0 then 0 else 1)) := by
  unfold fX12_bit
  refine zpc_ck (zpc_some ?_)
  show (μ, (μ.1 3 50 >>> ((7 : Int32) &&& 31)) &&& 1) = _
  rw [z_b7 h]
theorem p_bit_4_2 {μ : zSt} (h : zr 0 255 (μ.1 3 51)) : zpc (fX12_bit μ 4 2) (fun x => x = (μ, if μ.1 3 51 &&& 4 = 0 then 0 else 1)) := by
  unfold fX12_bit
  refine zpc_ck (zpc_some ?_)
  show (μ, (μ.1 3 51 >>> ((2 : Int32) &&& 31)) &&& 1) = _
  rw [z_b2 h]
theorem p_bit_6_2 {μ : zSt} (h : zr 0 255 (μ.1 3 53)) : zpc (fX12_bit μ 6 2) (fun x => x = (μ, if μ.1 3 53 &&& 4 = 0 then 0 else 1)) := by
  unfold fX12_bit
  refine zpc_ck (zpc_some ?_)
  show (μ, (μ.1 3 53 >>> ((2 : Int32) &&& 31)) &&& 1) = _
  rw [z_b2 h]
noncomputable def zmd (a b : Int32) : Int32 := if a &&& 4 = 0 then (if b &&& 16 = 0 then (if b &&& 8 = 0 then (if a &&& 2 = 0 then 0 else 2) else 3) else 1) else 4
noncomputable def zht (a b : Int32) : Int32 := if a &&& 4 = 0 then 192 else (if a &&& 2 = 0 then 192 else (if b &&& 16 = 0 then (if b &&& 8 = 0 then 192 else 240) else (if b &&& 8 = 0 then 224 else 192)))
section ZMH
variable {σ μ : zSt}
theorem p_modeC : zpc (fX9_mode σ ) (fun r => r = (σ, zmd (σ.1 23 0) (σ.1 23 1))) := by
  unfold fX9_mode fX9_mode_57 zmd
  refine zpc_ck (zpc_if (fun q1 => zpc_ck (zpc_if (fun q2 => zpc_ck (zpc_if (fun q3 => zpc_ck (zpc_if (fun q4 => zpc_some ?_) (fun q4 => zpc_some ?_))) (fun q3 => zpc_some ?_))) (fun q2 => zpc_some ?_))) (fun q1 => zpc_some ?_))
  · rw [if_pos (show σ.1 23 0 &&& 4 = 0 from q1), if_pos (show σ.1 23 1 &&& 16 = 0 from q2), if_pos (show σ.1 23 1 &&& 8 = 0 from q3), if_pos (show σ.1 23 0 &&& 2 = 0 from q4)]
  · rw [if_pos (show σ.1 23 0 &&& 4 = 0 from q1), if_pos (show σ.1 23 1 &&& 16 = 0 from q2), if_pos (show σ.1 23 1 &&& 8 = 0 from q3), if_neg (show ¬ σ.1 23 0 &&& 2 = 0 from q4)]
  · rw [if_pos (show σ.1 23 0 &&& 4 = 0 from q1), if_pos (show σ.1 23 1 &&& 16 = 0 from q2), if_neg (show ¬ σ.1 23 1 &&& 8 = 0 from q3)]
  · rw [if_pos (show σ.1 23 0 &&& 4 = 0 from q1), if_neg (show ¬ σ.1 23 1 &&& 16 = 0 from q2)]
  · rw [if_neg (show ¬ σ.1 23 0 &&& 4 = 0 from q1)]
theorem zpc_bit {α : Type} {c : Prop} {d : Decidable c} {q : Option (zSt × Int32)} {f : zSt → Int32 → Option α} {Q : α → Prop} (h : zpc q (fun x => x = (μ, @ite _ c d 0 1))) (k0 : c → zpc (f μ 0) Q) (k1 : ¬ c → zpc (f μ 1) Q) : zpc (zbi q f) Q := by
  refine zpc_bi h (fun s v e => ?_)
  by_cases g : c
  · rw [if_pos g] at e; cases e; exact k0 g
  · rw [if_neg g] at e; cases e; exact k1 g
theorem p_modeM (h0 : zr 0 255 (μ.1 3 47)) (h1 : zr 0 255 (μ.1 3 48)) : zpc (fX12_mode μ ) (fun r => r = (μ, zmd (μ.1 3 47) (μ.1 3 48))) := by
  unfold fX12_mode fX12_mode_57 zmd
  refine zpc_bit (p_bit_0_2 h0) (fun q1 => ?_) (fun q1 => zpc_if (fun _ => zpc_some (by rw [if_neg q1])) (fun r => absurd rfl r))
  refine zpc_if (fun r => absurd r (by decide)) (fun _ => ?_)
  refine zpc_bit (p_bit_1_4 h1) (fun q2 => ?_) (fun q2 => zpc_if (fun _ => zpc_some (by rw [if_pos q1, if_neg q2])) (fun r => absurd rfl r))
  refine zpc_if (fun r => absurd r (by decide)) (fun _ => ?_)
  refine zpc_bit (p_bit_1_3 h1) (fun q3 => ?_) (fun q3 => zpc_if (fun _ => zpc_some (by rw [if_pos q1, if_pos q2, if_neg q3])) (fun r => absurd rfl r))
  refine zpc_if (fun r => absurd r (by decide)) (fun _ => ?_)
  refine zpc_bit (p_bit_0_1 h0) (fun q4 => ?_) (fun q4 => zpc_if (fun _ => zpc_some (by rw [if_pos q1, if_pos q2, if_pos q3, if_neg q4])) (fun r => absurd rfl r))
  exact zpc_if (fun r => absurd r (by decide)) (fun _ => zpc_some (by rw [if_pos q1, if_pos q2, if_pos q3, if_pos q4]))
theorem zmd4 {a b : Int32} : zmd a b = 4 ↔ ¬ a &&& 4 = 0 := by
  unfold zmd
  constructor
  · intro h q
    rw [if_pos q] at h
    split at h
    · split at h
      · split at h <;> exact absurd h (by decide)
      · exact absurd h (by decide)
    · exact absurd h (by decide)
  · intro q; rw [if_neg q]
theorem p_heightC (h0 : zr 0 255 (σ.1 23 0)) (h1 : zr 0 255 (σ.1 23 1)) : zpc (fX9_height σ ) (fun r => r = (σ, zht (σ.1 23 0) (σ.1 23 1))) := by
  unfold fX9_height zht
  have e6 := z_46 h0
  have e24 := z_24 h1
  refine zpc_ck (zpc_if (fun q => zpc_ck (zpc_if (fun r => zpc_some ?_) (fun r => zpc_if (fun t => zpc_some ?_) (fun t => zpc_some ?_)))) (fun q => zpc_some ?_))
  · obtain ⟨a, b⟩ := e6.mp q
    obtain ⟨c, d⟩ := e24.1.mp r
    rw [if_neg a, if_neg b, if_pos c, if_neg d]
  · obtain ⟨a, b⟩ := e6.mp q
    obtain ⟨c, d⟩ := e24.2.mp t
    rw [if_neg a, if_neg b, if_neg c, if_pos d]
  · obtain ⟨a, b⟩ := e6.mp q
    rw [if_neg a, if_neg b]
    by_cases c : σ.1 23 1 &&& 16 = 0
    · by_cases d : σ.1 23 1 &&& 8 = 0
      · rw [if_pos c, if_pos d]
      · exact absurd (e24.1.mpr ⟨c, d⟩) r
    · by_cases d : σ.1 23 1 &&& 8 = 0
      · exact absurd (e24.2.mpr ⟨c, d⟩) t
      · rw [if_neg c, if_neg d]
  · by_cases a : σ.1 23 0 &&& 4 = 0
    · rw [if_pos a]
    · by_cases b : σ.1 23 0 &&& 2 = 0
      · rw [if_neg a, if_pos b]
      · exact absurd (e6.mpr ⟨a, b⟩) q
theorem p_heightM (h0 : zr 0 255 (μ.1 3 47)) (h1 : zr 0 255 (μ.1 3 48)) : zpc (fX12_height μ ) (fun r => r = (μ, zht (μ.1 3 47) (μ.1 3 48))) := by
  unfold fX12_height fX12_height_32 fX12_height_55 zht
  refine zpc_bi (p_modeM h0 h1) (fun μ1 v e => ?_)
  cases e
  refine zpc_if (fun q => ?_) (fun q => zpc_some ?_)
  · have a := zmd4.mp q
    rw [if_neg a]
    refine zpc_bit (p_bit_0_1 h0) (fun b => zpc_if (fun _ => zpc_some (by rw [if_pos b])) (fun r => absurd rfl r)) (fun b => ?_)
    refine zpc_if (fun r => absurd r (by decide)) (fun _ => ?_)
    rw [if_neg b]
    refine zpc_bit (p_bit_1_4 h1) (fun c => ?_) (fun c => ?_)
    · rw [if_pos c]
      refine zpc_bit (p_bit_1_3 h1) (fun d => zpc_if (fun _ => zpc_some (by rw [if_pos d])) (fun r => absurd rfl r)) (fun d => ?_)
      refine zpc_if (fun r => absurd r (by decide)) (fun _ => ?_)
      refine zpc_bit (p_bit_1_4 h1) (fun _ => ?_) (fun c' => absurd c c')
      exact zpc_if (fun r => absurd r (by decide)) (fun _ => zpc_some (by rw [if_neg d]))
    · rw [if_neg c]
      refine zpc_bit (p_bit_1_3 h1) (fun d => ?_) (fun d => zpc_if (fun _ => zpc_some (by rw [if_neg d])) (fun r => absurd rfl r))
      refine zpc_if (fun r => absurd r (by decide)) (fun _ => ?_)
      refine zpc_bit (p_bit_1_4 h1) (fun c' => absurd c' c) (fun _ => ?_)
      exact zpc_if (fun _ => zpc_some (by rw [if_pos d])) (fun r => absurd rfl r)
  · have a : μ.1 3 47 &&& 4 = 0 := by
      by_cases a : μ.1 3 47 &&& 4 = 0
      · exact a
      · exact absurd (zmd4.mpr a) q
    rw [if_pos a]
noncomputable def zhc (b : Int32) : Int32 := if (b * 3) / 4 < 148 then (b * 3) / 4 else (b * 3) / 4 + 85
theorem p_hCountC : zpc (fX9_hCount σ ) (fun r => r = (σ, zhc (σ.1 23 21))) := by
  unfold fX9_hCount fX9_hCount_27 zhc
  refine zpc_ck (zpc_ck (zpc_bv (fun v e => ?_)))
  subst e
  exact zpc_if (fun q => zpc_some (by rw [if_pos (show (σ.1 23 21 * 3) / 4 < 148 from q)]; rfl)) (fun q => zpc_some (by rw [if_neg (show ¬ (σ.1 23 21 * 3) / 4 < 148 from q)]; rfl))
theorem p_hCountM : zpc (fX12_hCount μ ) (fun r => r = (μ, zhc (μ.1 3 67))) := by
  unfold fX12_hCount fX12_hCount_27 zhc
  refine zpc_ck (zpc_ck (zpc_bv (fun v e => ?_)))
  subst e
  exact zpc_if (fun q => zpc_some (by rw [if_neg (show ¬ (μ.1 3 67 * 3) / 4 < 148 from fun r => absurd (Int32.lt_iff_toInt_lt.mp r) (Int.not_lt.mpr (Int32.le_iff_toInt_le.mp q)))]; rfl)) (fun q => zpc_some (by rw [if_pos (show (μ.1 3 67 * 3) / 4 < 148 from z_nle q)]; rfl))
noncomputable def zvc (l h k : Int32) : Int32 := (if (if k = 1 then (if h = 192 then 243 else if h = 224 then 259 else 267) else (if h = 192 then 219 else if h = 224 then 235 else (262 : Int32))) ≤ l then l - (if k = 1 then 57 else 6) else l) &&& 255
theorem p_vCountC {k : Int32} (h0 : zr 0 255 (σ.1 23 0)) (h1 : zr 0 255 (σ.1 23 1)) (hk : σ.1 2 1 = if k = 1 then 313 else 262) : zpc (fX9_vCount σ ) (fun r => r = (σ, zvc (σ.1 23 20) (zht (σ.1 23 0) (σ.1 23 1)) k)) := by
  unfold fX9_vCount
  refine zpc_bi (p_heightC h0 h1) (fun σ1 v e => ?_)
  cases e
  generalize zht (σ.1 23 0) (σ.1 23 1) = h
  have fin : ∀ f m : Int32, zpc (fX9_vCount_97 σ m f) (fun r => r = (σ, (if f ≤ σ.1 23 20 then σ.1 23 20 - (if m = 0 then 6 else 57) else σ.1 23 20) &&& 255)) := fun f m => by
    unfold fX9_vCount_97 fX9_vCount_136 fX9_vCount_137
    refine zpc_ck (zpc_if (fun q => zpc_ck (zpc_if (fun r => zpc_some ?_) (fun r => zpc_some ?_))) (fun q => zpc_ck (zpc_some ?_)))
    · rw [if_pos (show f ≤ σ.1 23 20 from q), if_pos r]; rfl
    · rw [if_pos (show f ≤ σ.1 23 20 from q), if_neg r]; rfl
    · rw [if_neg (show ¬ f ≤ σ.1 23 20 from q)]; rfl
  unfold fX9_vCount_20 fX9_vCount_61 fX9_vCount_78 fX9_vCount_96 zvc
  by_cases k1 : k = 1
  · rw [if_pos k1] at hk
    rw [if_pos k1, if_pos k1]
    refine zpc_if (fun _ => ?_) (fun q => absurd hk q)
    refine zpc_if (fun a => zpc_if (fun r => absurd r (by decide)) (fun _ => ?_)) (fun a => zpc_if (fun b => zpc_if (fun r => absurd r (by decide)) (fun _ => ?_)) (fun b => zpc_if (fun r => absurd r (by decide)) (fun _ => ?_)))
    · rw [if_pos a]; exact fin 243 1
    · rw [if_neg a, if_pos b]; exact fin 259 1
    · rw [if_neg a, if_neg b]; exact fin 267 1
  · rw [if_neg k1] at hk
    rw [if_neg k1, if_neg k1]
    refine zpc_if (fun q => absurd (hk.symm.trans q) (by decide)) (fun _ => ?_)
    refine zpc_if (fun a => zpc_if (fun _ => ?_) (fun r => absurd rfl r)) (fun a => zpc_if (fun b => zpc_if (fun _ => ?_) (fun r => absurd rfl r)) (fun b => zpc_if (fun _ => ?_) (fun r => absurd rfl r)))
    · rw [if_pos a]; exact fin 219 0
    · rw [if_neg a, if_pos b]; exact fin 235 0
    · rw [if_neg a, if_neg b, show zgi σ 2 1 = 262 from hk]; exact fin 262 0
theorem p_vCountM (h0 : zr 0 255 (μ.1 3 47)) (h1 : zr 0 255 (μ.1 3 48)) (hl : zr 0 312 (μ.1 3 66)) (hl2 : ¬ μ.1 0 3 = 1 → zr 0 261 (μ.1 3 66)) : zpc (fX12_vCount μ ) (fun r => r = (μ, zvc (μ.1 3 66) (zht (μ.1 3 47) (μ.1 3 48)) (μ.1 0 3))) := by
  unfold fX12_vCount
  refine zpc_ck (zpc_bv (fun v e => ?_))
  subst e
  refine zpc_bi (p_heightM h0 h1) (fun μ1 w e => ?_)
  cases e
  generalize zht (μ.1 3 47) (μ.1 3 48) = h
  have fin : ∀ f : Int32, zpc (fX12_vCount_82 μ (μ.1 3 66) f) (fun r => r = (μ, (if f ≤ μ.1 3 66 then μ.1 3 66 - (if μ.1 0 3 = 1 then 57 else 6) else μ.1 3 66) &&& 255)) := fun f => by
    unfold fX12_vCount_82 fX12_vCount_108 fX12_vCount_109
    refine zpc_if (fun q => zpc_if (fun r => zpc_some ?_) (fun r => zpc_some ?_)) (fun q => zpc_some ?_)
    · rw [if_pos q, if_pos (show μ.1 0 3 = 1 from r)]
    · rw [if_pos q, if_neg (show ¬ μ.1 0 3 = 1 from r)]
    · rw [if_neg q]
  unfold zvc
  refine zpc_if (fun k1 => ?_) (fun k1 => ?_)
  · rw [if_pos (show μ.1 0 3 = 1 from k1)]
    refine zpc_if (fun a => ?_) (fun a => zpc_if (fun b => ?_) (fun b => ?_))
    · rw [if_pos a]; exact fin 243
    · rw [if_neg a, if_pos b]; exact fin 259
    · rw [if_neg a, if_neg b]; exact fin 267
  · rw [if_neg (show ¬ μ.1 0 3 = 1 from k1)]
    refine zpc_if (fun a => ?_) (fun a => zpc_if (fun b => ?_) (fun b => ?_))
    · rw [if_pos a]; exact fin 219
    · rw [if_neg a, if_pos b]; exact fin 235
    · rw [if_neg a, if_neg b]
      have f := fin 1000
      rw [if_neg (zq_gef (hl2 k1) (k := 1000) rfl (by decide))] at f
      rw [if_neg (zq_gef (hl2 k1) (k := 262) rfl (by decide))]
      exact f
noncomputable def zak (a b c d : Int32) : Int32 := if b &&& 32 = 0 then (if a &&& 16 = 0 then 0 else if d = 1 then 1 else 0) else (if c &&& 128 = 0 then (if a &&& 16 = 0 then 0 else if d = 1 then 1 else 0) else 1)
theorem p_asksC : zpc (fX9_asks σ ) (fun r => r = (σ, zak (σ.1 23 0) (σ.1 23 1) (σ.1 23 15) (σ.1 23 16))) := by
  unfold fX9_asks
  have fin : zpc (fX9_asks_26 σ ) (fun r => r = (σ, if σ.1 23 0 &&& 16 = 0 then 0 else if σ.1 23 16 = 1 then 1 else 0)) := by
    unfold fX9_asks_26 fX9_asks_49 fX9_asks_53 fX9_asks_54
    refine zpc_ck (zpc_if (fun q => zpc_ck (zpc_some ?_)) (fun q => zpc_ck (zpc_if (fun r => zpc_ck (zpc_some ?_)) (fun r => zpc_ck (zpc_some ?_)))))
    · rw [if_pos (show σ.1 23 0 &&& 16 = 0 from q)]
    · rw [if_neg (show ¬ σ.1 23 0 &&& 16 = 0 from q), if_pos (show σ.1 23 16 = 1 from r)]
    · rw [if_neg (show ¬ σ.1 23 0 &&& 16 = 0 from q), if_neg (show ¬ σ.1 23 16 = 1 from r)]
  unfold fX9_asks_49 fX9_asks_54 zak
  refine zpc_ck (zpc_if (fun q => ?_) (fun q => zpc_ck (zpc_if (fun r => ?_) (fun r => zpc_ck (zpc_some ?_)))))
  · rw [if_pos (show σ.1 23 1 &&& 32 = 0 from q)]; exact fin
  · rw [if_neg (show ¬ σ.1 23 1 &&& 32 = 0 from q), if_pos (show σ.1 23 15 &&& 128 = 0 from r)]; exact fin
  · rw [if_neg (show ¬ σ.1 23 1 &&& 32 = 0 from q), if_neg (show ¬ σ.1 23 15 &&& 128 = 0 from r)]
theorem p_asksM (h0 : zr 0 255 (μ.1 3 47)) (h1 : zr 0 255 (μ.1 3 48)) (h2 : zr 0 255 (μ.1 3 62)) : zpc (fX12_asks μ ) (fun r => r = (μ, zak (μ.1 3 47) (μ.1 3 48) (μ.1 3 62) (μ.1 3 63))) := by
  unfold fX12_asks
  have fin : zpc (fX12_asks_22 μ ) (fun r => r = (μ, if μ.1 3 47 &&& 16 = 0 then 0 else if μ.1 3 63 = 1 then 1 else 0)) := by
    unfold fX12_asks_22 fX12_asks_43 fX12_asks_47 fX12_asks_48
    refine zpc_bit (p_bit_0_4 h0) (fun q => zpc_if (fun r => absurd r (by decide)) (fun _ => zpc_ck (zpc_some (by rw [if_pos q])))) (fun q => ?_)
    refine zpc_if (fun _ => zpc_ck (zpc_if (fun r => zpc_ck (zpc_some ?_)) (fun r => zpc_ck (zpc_some ?_)))) (fun r => absurd rfl r)
    · rw [if_neg q, if_pos (show μ.1 3 63 = 1 from r)]
    · rw [if_neg q, if_neg (show ¬ μ.1 3 63 = 1 from r)]
  unfold fX12_asks_43 fX12_asks_48 zak
  refine zpc_bit (p_bit_1_5 h1) (fun q => zpc_if (fun r => absurd r (by decide)) (fun _ => by rw [if_pos q]; exact fin)) (fun q => ?_)
  refine zpc_if (fun _ => zpc_ck (zpc_if (fun r => zpc_ck (zpc_some ?_)) (fun r => ?_))) (fun r => absurd rfl r)
  · rw [if_neg q, if_neg ((z_s7 h2).mp r)]
  · have n : μ.1 3 62 &&& 128 = 0 := by
      by_cases n : μ.1 3 62 &&& 128 = 0
      · exact n
      · exact absurd ((z_s7 h2).mpr n) r
    rw [if_neg q, if_pos n]; exact fin
end ZMH
end ZJN20
section ZJN21
/-! FLAGS -/
theorem zpc_j {α : Type} {c : Prop} {d : Decidable c} {K : Int32 → Option α} {a b : Int32} {Q : α → Prop} (h : ∀ v, v = @ite _ c d a b → zpc (K v) Q) : zpc (@ite _ c d (K a) (K b)) Q := by
  by_cases q : c
  · rw [if_pos q]; exact h a (if_pos q).symm
  · rw [if_neg q]; exact h b (if_neg q).symm
theorem zsi_own {ν : zSt} {k j : Nat} : zsi ν k j (ν.1 k j) = ν := by
  refine Prod.ext (funext fun a => funext fun b => ?_) rfl
  rw [zsi_at]
  by_cases q : a = k ∧ b = j
  · rw [if_pos q, q.1, q.2]
  · rw [if_neg q]
theorem zsi_ow {ν : zSt} {k j : Nat} {v w : Int32} : zsi (zsi ν k j v) k j w = zsi ν k j w := by
  refine Prod.ext (funext fun a => funext fun b => ?_) rfl
  rw [zsi_at, zsi_at, zsi_at]
  by_cases q : a = k ∧ b = j
  · rw [if_pos q, if_pos q]
  · rw [if_neg q, if_neg q, if_neg q]
/-- the reference: a flag is put -/
noncomputable def pt (f b v : Int32) : Int32 := if v = 0 then f &&& ((1 <<< (b &&& 31)) ^^^ (-1)) else f ||| (1 <<< (b &&& 31))
noncomputable def gxy (f x : Int32) : Int32 := pt (pt f 5 (if x &&& 32 = 0 then 0 else 1)) 3 (if x &&& 8 = 0 then 0 else 1)
noncomputable def gby (f x : Int32) : Int32 := gxy (pt (pt f 7 (if x &&& 128 = 0 then 0 else 1)) 6 (if x = 0 then 1 else 0)) x
noncomputable def gsm (v : Int32) : Int32 := 0 + ((v >>> ((0 : Int32) &&& 31)) &&& 1) + ((v >>> ((1 : Int32) &&& 31)) &&& 1) + ((v >>> ((2 : Int32) &&& 31)) &&& 1) + ((v >>> ((3 : Int32) &&& 31)) &&& 1) + ((v >>> ((4 : Int32) &&& 31)) &&& 1) + ((v >>> ((5 : Int32) &&& 31)) &&& 1) + ((v >>> ((6 : Int32) &&& 31)) &&& 1) + ((v >>> ((7 : Int32) &&& 31)) &&& 1)
noncomputable def gev (v : Int32) : Int32 := if zrem (gsm v) 2 = 0 then 1 else 0
section ZFL
variable {μ σ : zSt} {f b v x : Int32}
theorem p_put : zpc (fX12_put (zsi μ 3 1 f) b v) (fun r => r = zsi μ 3 1 (pt f b v)) := by
  unfold fX12_put fX12_put_34 pt
  refine zpc_if (fun q => zpc_ck (zpc_ck (zpc_bv (fun s e => zpc_some ?_)))) (fun q => zpc_ck (zpc_ck (zpc_bv (fun s e => zpc_some ?_))))
  · rw [if_pos q, e]; exact zsi_ow
  · rw [if_neg q, e]; exact zsi_ow
theorem p_xy : zpc (fX12_xy (zsi μ 3 1 f) x) (fun r => r = zsi μ 3 1 (gxy f x)) := by
  unfold fX12_xy
  refine zpc_j (K := fun v => fX12_xy_14 (zsi μ 3 1 f) x v 5) (a := 0) (b := 1) (fun v ev => ?_)
  unfold fX12_xy_14
  refine zpc_bu p_put (fun s e => ?_)
  subst e
  refine zpc_j (K := fun w => fX12_xy_31 (zsi μ 3 1 (pt f 5 v)) w 3) (a := 0) (b := 1) (fun w ew => ?_)
  unfold fX12_xy_31
  refine zpc_bu p_put (fun s e => zpc_some ?_)
  rw [e, ev, ew]
  rfl
theorem p_by : zpc (fX12_by (zsi μ 3 1 f) x) (fun r => r = zsi μ 3 1 (gby f x)) := by
  unfold fX12_by
  refine zpc_j (K := fun v => fX12_by_16 (zsi μ 3 1 f) x v 7) (a := 0) (b := 1) (fun v ev => ?_)
  unfold fX12_by_16
  refine zpc_bu p_put (fun s e => ?_)
  subst e
  refine zpc_j (K := fun w => fX12_by_31 (zsi μ 3 1 (pt f 7 v)) x w 6) (a := 1) (b := 0) (fun w ew => ?_)
  unfold fX12_by_31
  refine zpc_bu p_put (fun s e => ?_)
  subst e
  refine zpc_bu p_xy (fun s e => zpc_some ?_)
  rw [e, ev, ew]
  rfl
theorem p_flag : zpc (fX12_flag μ b) (fun r => r = (μ, (μ.1 3 1 >>> (b &&& 31)) &&& 1)) := by
  unfold fX12_flag
  exact zpc_ck (zpc_some rfl)
theorem e_even (n : Nat) : fX12_isEven_4 (n + 9) μ v 0 0 = zck (decide (¬ (2 : Int32) = 0)) (if zrem (gsm v) 2 = 0 then fX12_isEven_35 μ 1 else fX12_isEven_35 μ 0) := rfl
theorem p_even : zpc (fX12_isEven μ v) (fun r => r = (μ, gev v)) := by
  unfold fX12_isEven
  have e : fX12_isEven_4 zfuel μ v 0 0 = _ := e_even (μ := μ) (v := v) 1999991
  rw [e]
  unfold fX12_isEven_35 gev
  refine zpc_ck (zpc_if (fun q => zpc_ck (zpc_some ?_)) (fun q => zpc_ck (zpc_some ?_)))
  · rw [if_pos q]
  · rw [if_neg q]
theorem p_signed : zpc (fX12_signed μ v) (fun r => r = (μ, if 128 ≤ v then v - 256 else v)) := by
  unfold fX12_signed fX12_signed_16
  exact zpc_if (fun q => zpc_some (by rw [if_pos q])) (fun q => zpc_some (by rw [if_neg q]))
/-! the class -/
noncomputable def cby (x : Int32) : Int32 := (x &&& 168) ||| (if x = 0 then 64 else 0)
noncomputable def gbc (x : Int32) : Int32 :=
  let v1 := x - ((zush x 1) &&& 1431655765)
  let v2 := (v1 &&& 858993459) + ((zush v1 2) &&& 858993459)
  let v3 := (v2 + (zush v2 4)) &&& 252645135
  let v4 := v3 + (zush v3 8)
  (v4 + (zush v4 16)) &&& 63
noncomputable def cpar (x : Int32) : Int32 := if (gbc x) &&& 1 = 0 then 4 else 0
theorem p_byC : zpc (fX5_by σ x) (fun r => r = (σ, cby x)) := by
  unfold fX5_by fX5_by_15 cby
  exact zpc_if (fun q => zpc_some (by rw [if_pos q])) (fun q => zpc_some (by rw [if_neg q]))
theorem p_parC : zpc (fX5_parity σ x) (fun r => r = (σ, cpar x)) := by
  unfold fX5_parity fX5_parity_14 cpar
  refine zpc_bi (P := fun r => r = (σ, gbc x)) (fun r e => ?_) (fun s w e => ?_)
  · have e : some (σ, gbc x) = some r := e
    cases e
    rfl
  · cases e
    exact zpc_if (fun q => zpc_some (by rw [if_pos q])) (fun q => zpc_some (by rw [if_neg q]))
end ZFL
noncomputable def zfl (b7 b6 b5 b4 b3 b2 b1 b0 : Bool) : Int32 := (bif b7 then 128 else 0) ||| (bif b6 then 64 else 0) ||| (bif b5 then 32 else 0) ||| (bif b4 then 16 else 0) ||| (bif b3 then 8 else 0) ||| (bif b2 then 4 else 0) ||| (bif b1 then 2 else 0) ||| (bif b0 then 1 else 0)
theorem pt_0 {b7 b6 b5 b4 b3 b2 b1 b0 : Bool} {v : Int32} : pt (zfl b7 b6 b5 b4 b3 b2 b1 b0) 0 v = zfl b7 b6 b5 b4 b3 b2 b1 (decide (¬ v = 0)) := by
  unfold pt
  by_cases h : v = 0
  · rw [if_pos h, show decide (¬ v = 0) = false from decide_eq_false (fun r => r h)]
    revert b7 b6 b5 b4 b3 b2 b1 b0
    decide
  · rw [if_neg h, show decide (¬ v = 0) = true from decide_eq_true h]
    revert b7 b6 b5 b4 b3 b2 b1 b0
    decide
theorem pt_1 {b7 b6 b5 b4 b3 b2 b1 b0 : Bool} {v : Int32} : pt (zfl b7 b6 b5 b4 b3 b2 b1 b0) 1 v = zfl b7 b6 b5 b4 b3 b2 (decide (¬ v = 0)) b0 := by
  unfold pt
  by_cases h : v = 0
  · rw [if_pos h, show decide (¬ v = 0) = false from decide_eq_false (fun r => r h)]
    revert b7 b6 b5 b4 b3 b2 b1 b0
    decide
  · rw [if_neg h, show decide (¬ v = 0) = true from decide_eq_true h]
    revert b7 b6 b5 b4 b3 b2 b1 b0
    decide
theorem pt_2 {b7 b6 b5 b4 b3 b2 b1 b0 : Bool} {v : Int32} : pt (zfl b7 b6 b5 b4 b3 b2 b1 b0) 2 v = zfl b7 b6 b5 b4 b3 (decide (¬ v = 0)) b1 b0 := by
  unfold pt
  by_cases h : v = 0
  · rw [if_pos h, show decide (¬ v = 0) = false from decide_eq_false (fun r => r h)]
    revert b7 b6 b5 b4 b3 b2 b1 b0
    decide
  · rw [if_neg h, show decide (¬ v = 0) = true from decide_eq_true h]
    revert b7 b6 b5 b4 b3 b2 b1 b0
    decide
theorem pt_3 {b7 b6 b5 b4 b3 b2 b1 b0 : Bool} {v : Int32} : pt (zfl b7 b6 b5 b4 b3 b2 b1 b0) 3 v = zfl b7 b6 b5 b4 (decide (¬ v = 0)) b2 b1 b0 := by
  unfold pt
  by_cases h : v = 0
  · rw [if_pos h, show decide (¬ v = 0) = false from decide_eq_false (fun r => r h)]
    revert b7 b6 b5 b4 b3 b2 b1 b0
    decide
  · rw [if_neg h, show decide (¬ v = 0) = true from decide_eq_true h]
    revert b7 b6 b5 b4 b3 b2 b1 b0
    decide
theorem pt_4 {b7 b6 b5 b4 b3 b2 b1 b0 : Bool} {v : Int32} : pt (zfl b7 b6 b5 b4 b3 b2 b1 b0) 4 v = zfl b7 b6 b5 (decide (¬ v = 0)) b3 b2 b1 b0 := by
  unfold pt
  by_cases h : v = 0
  · rw [if_pos h, show decide (¬ v = 0) = false from decide_eq_false (fun r => r h)]
    revert b7 b6 b5 b4 b3 b2 b1 b0
    decide
  · rw [if_neg h, show decide (¬ v = 0) = true from decide_eq_true h]
    revert b7 b6 b5 b4 b3 b2 b1 b0
    decide
theorem pt_5 {b7 b6 b5 b4 b3 b2 b1 b0 : Bool} {v : Int32} : pt (zfl b7 b6 b5 b4 b3 b2 b1 b0) 5 v = zfl b7 b6 (decide (¬ v = 0)) b4 b3 b2 b1 b0 := by
  unfold pt
  by_cases h : v = 0
  · rw [if_pos h, show decide (¬ v = 0) = false from decide_eq_false (fun r => r h)]
    revert b7 b6 b5 b4 b3 b2 b1 b0
    decide
  · rw [if_neg h, show decide (¬ v = 0) = true from decide_eq_true h]
    revert b7 b6 b5 b4 b3 b2 b1 b0
    decide
theorem pt_6 {b7 b6 b5 b4 b3 b2 b1 b0 : Bool} {v : Int32} : pt (zfl b7 b6 b5 b4 b3 b2 b1 b0) 6 v = zfl b7 (decide (¬ v = 0)) b5 b4 b3 b2 b1 b0 := by
  unfold pt
  by_cases h : v = 0
  · rw [if_pos h, show decide (¬ v = 0) = false from decide_eq_false (fun r => r h)]
    revert b7 b6 b5 b4 b3 b2 b1 b0
    decide
  · rw [if_neg h, show decide (¬ v = 0) = true from decide_eq_true h]
    revert b7 b6 b5 b4 b3 b2 b1 b0
    decide
theorem pt_7 {b7 b6 b5 b4 b3 b2 b1 b0 : Bool} {v : Int32} : pt (zfl b7 b6 b5 b4 b3 b2 b1 b0) 7 v = zfl (decide (¬ v = 0)) b6 b5 b4 b3 b2 b1 b0 := by
  unfold pt
  by_cases h : v = 0
  · rw [if_pos h, show decide (¬ v = 0) = false from decide_eq_false (fun r => r h)]
    revert b7 b6 b5 b4 b3 b2 b1 b0
    decide
  · rw [if_neg h, show decide (¬ v = 0) = true from decide_eq_true h]
    revert b7 b6 b5 b4 b3 b2 b1 b0
    decide
theorem fl_f : ∀ i : Fin 256, Int32.ofNat i.val = zfl (decide (¬ Int32.ofNat i.val &&& 128 = 0)) (decide (¬ Int32.ofNat i.val &&& 64 = 0)) (decide (¬ Int32.ofNat i.val &&& 32 = 0)) (decide (¬ Int32.ofNat i.val &&& 16 = 0)) (decide (¬ Int32.ofNat i.val &&& 8 = 0)) (decide (¬ Int32.ofNat i.val &&& 4 = 0)) (decide (¬ Int32.ofNat i.val &&& 2 = 0)) (decide (¬ Int32.ofNat i.val &&& 1 = 0)) := by decide +kernel
theorem fl_of {f : Int32} (h : zr 0 255 f) : f = zfl (decide (¬ f &&& 128 = 0)) (decide (¬ f &&& 64 = 0)) (decide (¬ f &&& 32 = 0)) (decide (¬ f &&& 16 = 0)) (decide (¬ f &&& 8 = 0)) (decide (¬ f &&& 4 = 0)) (decide (¬ f &&& 2 = 0)) (decide (¬ f &&& 1 = 0)) := by
  obtain ⟨i, e⟩ := z_byteF h
  rw [e]
  exact fl_f i
end ZJN21
section ZJN22
/-! BOTH PROCESSORS: what belongs together within an instruction -/
noncomputable def zsub (R : List Nat) (A : List (Nat × Nat × Nat)) (R' : List Nat) (A' : List (Nat × Nat × Nat)) : Bool := R.all (fun k => R'.any (Nat.beq k)) && A.all (fun e => R'.any (Nat.beq e.1) || A'.any (fun d => Nat.beq d.1 e.1 && (Nat.ble d.2.1 e.2.1 && Nat.ble e.2.2 d.2.2)))
theorem zcv_sub {R R' : List Nat} {A A' : List (Nat × Nat × Nat)} (c : zsub R A R' A' = true) {k j : Nat} (h : zcv R' A' k j = false) : zcv R A k j = false := by
  unfold zsub at c
  rw [Bool.and_eq_true, List.all_eq_true, List.all_eq_true] at c
  unfold zcv at h ⊢
  rw [Bool.or_eq_false_iff] at h
  rw [Bool.or_eq_false_iff]
  refine ⟨?_, ?_⟩
  · rw [List.any_eq_false] at *
    intro x hx q
    have a := c.1 x hx
    rw [List.any_eq_true] at a
    obtain ⟨y, y1, y2⟩ := a
    have e1 : k = x := Nat.eq_of_beq_eq_true q
    have e2 : x = y := Nat.eq_of_beq_eq_true y2
    exact h.1 y y1 (by rw [e1, e2]; exact Nat.beq_refl y)
  · rw [List.any_eq_false]
    intro e he q
    rw [Bool.and_eq_true, Bool.and_eq_true] at q
    obtain ⟨q1, q2, q3⟩ := q
    have e1 : e.1 = k := Nat.eq_of_beq_eq_true q1
    have a := c.2 e he
    rw [Bool.or_eq_true, List.any_eq_true, List.any_eq_true] at a
    rcases a with ⟨y, y1, y2⟩ | ⟨d, d1, d2⟩
    · have e2 : e.1 = y := Nat.eq_of_beq_eq_true y2
      have h1 := h.1
      rw [List.any_eq_false] at h1
      exact h1 y y1 (by rw [← e1, e2]; exact Nat.beq_refl y)
    · rw [Bool.and_eq_true, Bool.and_eq_true] at d2
      obtain ⟨r1, r2, r3⟩ := d2
      have h2 := h.2
      rw [List.any_eq_false] at h2
      refine h2 d d1 ?_
      rw [Bool.and_eq_true, Bool.and_eq_true]
      have a1 := Nat.le_of_ble_eq_true q2
      have a2 := Nat.le_of_ble_eq_true q3
      have a3 := Nat.le_of_ble_eq_true r2
      have a4 := Nat.le_of_ble_eq_true r3
      refine ⟨?_, Nat.ble_eq.mpr (by omega), Nat.ble_eq.mpr (by omega)⟩
      rw [← e1]
      exact r1
theorem zQ.mono {R R' S S' : List Nat} {A A' B B' : List (Nat × Nat × Nat)} {σ σ' : zSt} (h : zQ R A S B σ σ') (c : zsub R A R' A' = true) (d : zsub S B S' B' = true) : zQ R' A' S' B' σ σ' := ⟨fun k j q => h.1 k j (zcv_sub c q), fun k j q => h.2 k j (zcv_sub d q)⟩
theorem zp2_bll {α β : Type} {o : Option (zSt × Int64)} {p : Option β} {f : zSt → Int64 → Option α} {P : zSt × Int64 → Prop} {Q : α → β → Prop} (h : zpc o P) (k : ∀ σ v, P (σ, v) → zp2 (f σ v) p Q) : zp2 (zbl o f) p Q := by
  cases o with
  | none => exact zp2_nl
  | some a => exact k a.1 a.2 (h a rfl)
theorem zp2_bur {α β : Type} {o : Option α} {p : Option zSt} {f : zSt → Option β} {P : zSt → Prop} {Q : α → β → Prop} (h : zpc p P) (k : ∀ σ, P σ → zp2 o (f σ) Q) : zp2 o (zbu p f) Q := by
  cases p with
  | none => exact zp2_nr
  | some a => exact k a (h a rfl)
theorem zp2_bilp {α β : Type} {o : Option (zSt × Int32)} {p : Option β} {f : zSt → Int32 → Option α} {P : zSt × Int32 → β → Prop} {Q : α → β → Prop} (h : zp2 o p P) (k : ∀ s v b, P (s, v) b → zp2 (f s v) (some b) Q) : zp2 (zbi o f) p Q := by
  intro a b ea eb
  cases e : o with
  | none => rw [e] at ea; cases ea
  | some r =>
    rw [e] at ea
    exact k r.1 r.2 b (h r b e eb) a b ea rfl
/-! registers -/
noncomputable def zrg (j : Nat) (v : Int32) : Prop := (j < 16 → zr 0 255 v) ∧ (16 ≤ j → j ≤ 20 → zr 0 65535 v) ∧ (21 ≤ j → j ≤ 22 → zr 0 255 v) ∧ (23 ≤ j → j ≤ 24 → zr 0 1 v) ∧ (j = 25 → zr 0 2 v) ∧ (26 ≤ j → j ≤ 28 → zr 0 1 v)
/-- all registers but F and WZ: those may differ in between -/
noncomputable def zCq (σ μ : zSt) : Prop := (∀ j : Nat, j ≤ 26 → ¬ j = 1 → ¬ j = 20 → μ.1 3 j = σ.1 36 j) ∧ μ.1 3 28 = σ.1 36 27 ∧ μ.1 3 27 = σ.1 36 28 ∧ (∀ j : Nat, j ≤ 28 → zrg j (σ.1 36 j))
noncomputable def zM2 (σ μ : zSt) : Prop := zMe σ μ ∧ zMr σ μ
noncomputable def zJp (σ μ : zSt) : Prop := (σ.1 7 4 = 6 ∧ μ.1 0 31 = 0) ∨ (σ.1 7 4 = 16 ∧ μ.1 0 31 = 16) ∨ (σ.1 7 4 = 17 ∧ μ.1 0 31 = 17)
/-- what lies beside the processor and is left alone by it -/
noncomputable def zIoK (I : zSt → zSt → Prop) : Prop := ∀ σ μ σ' μ', I σ μ → zQ [36, 7, 15, 17, 19] [] [] [] σ σ' → zQ [5, 6] [(3, 0, 32), (0, 31, 33)] [] [] μ μ' → I σ' μ'
noncomputable def zTT (I : zSt → zSt → Prop) (σ μ : zSt) : Prop := zM2 σ μ ∧ zCq σ μ ∧ zJp σ μ ∧ I σ μ
noncomputable def zall : List Nat → (Nat → Prop) → Prop
  | [], _ => True
  | a :: t, P => P a ∧ zall t P
theorem zall_of {P : Nat → Prop} : ∀ {A : List Nat}, zall A P → ∀ j ∈ A, P j
  | [], _, j, h => by cases h
  | a :: t, h, j, m => by
    rcases List.mem_cons.mp m with e | e
    · rw [e]; exact h.1
    · exact zall_of h.2 j e
theorem zAl0 {P : Nat → Prop} : zall [] P := trivial
theorem zAlc {P : Nat → Prop} {a : Nat} {t : List Nat} (p : P a) (q : zall t P) : zall (a :: t) P := ⟨p, q⟩
theorem zAl1 {P : Nat → Prop} {a : Nat} (p : P a) : zall [a] P := zAlc p zAl0
theorem zAl2 {P : Nat → Prop} {a b : Nat} (p : P a) (q : P b) : zall [a, b] P := zAlc p (zAl1 q)
theorem zAl3 {P : Nat → Prop} {a b c : Nat} (p : P a) (q : P b) (r : P c) : zall [a, b, c] P := zAlc p (zAl2 q r)
theorem zM2.keep {σ μ σ' μ' : zSt} (h : zM2 σ μ) (a : zQ [36, 7] [] [] [] σ σ') (b : zQ [] [(3, 0, 28), (0, 31, 33)] [] [] μ μ') : zM2 σ' μ' := by
  obtain ⟨⟨h1, h2, h3, h4, h5, h6⟩, ⟨r1, r2, r3, r4, r5, r6⟩⟩ := h
  have c : ∀ k j, ¬ k = 36 → ¬ k = 7 → σ'.1 k j = σ.1 k j := fun k j n1 n2 => a.1 k j (by
    unfold zcv
    rw [Bool.or_eq_false_iff]
    refine ⟨?_, rfl⟩
    rw [List.any_eq_false]
    intro x hx q
    have e : k = x := Nat.eq_of_beq_eq_true q
    rcases List.mem_cons.mp hx with r | r
    · exact n1 (e.trans r)
    · rcases List.mem_cons.mp r with r | r
      · exact n2 (e.trans r)
      · cases r)
  have m : ∀ k j, (¬ k = 3 ∧ ¬ k = 0) ∨ (k = 3 ∧ 28 < j) ∨ (k = 0 ∧ j < 31) → μ'.1 k j = μ.1 k j := fun k j n => b.1 k j (by
    unfold zcv
    rw [Bool.or_eq_false_iff]
    refine ⟨rfl, ?_⟩
    rw [List.any_eq_false]
    intro x hx q
    rw [Bool.and_eq_true, Bool.and_eq_true] at q
    obtain ⟨q1, q2, q3⟩ := q
    have e : x.1 = k := Nat.eq_of_beq_eq_true q1
    have a2 := Nat.le_of_ble_eq_true q2
    have a3 := Nat.le_of_ble_eq_true q3
    rcases List.mem_cons.mp hx with r | r
    · subst r
      have e : 3 = k := e
      have a3 : j ≤ 28 := a3
      omega
    · rcases List.mem_cons.mp r with r | r
      · subst r
        have e : 0 = k := e
        have a2 : 31 ≤ j := a2
        omega
      · cases r)
  have c1 : σ'.1 1 = σ.1 1 := funext fun j => c 1 j (by decide) (by decide)
  have m0 : ∀ j, j < 31 → μ'.1 0 j = μ.1 0 j := fun j hj => m 0 j (Or.inr (Or.inr ⟨rfl, hj⟩))
  refine ⟨⟨fun j hj => ?_, fun j hj => ?_, fun j hj => ?_, ?_, ?_, ?_⟩, ⟨?_, ?_, ?_, ?_, ?_, fun j j1 j2 => ?_⟩⟩
  · rw [c 15 j (by decide) (by decide), m 5 j (Or.inl (by decide))]; exact h1 j hj
  · rw [c 17 j (by decide) (by decide), m 6 j (Or.inl (by decide))]; exact h2 j hj
  · rw [c 19 j (by decide) (by decide), m 3 (29 + j) (Or.inr (Or.inl ⟨rfl, by omega⟩))]; exact h3 j hj
  · rw [c 19 3 (by decide) (by decide), m 3 32 (Or.inr (Or.inl ⟨rfl, by decide⟩))]; exact h4
  · refine h5.keep (fun j _ => by rw [c1]) (funext fun j => c _ j ?_ ?_) (fun j hj => m0 j ?_) (funext fun j => m 2 j (Or.inl (by decide)))
    · rcases z_tp13 (σ.1 1 1) with e | e <;> rw [e] <;> decide
    · rcases z_tp13 (σ.1 1 1) with e | e <;> rw [e] <;> decide
    · revert hj
      simp only [List.mem_cons, List.not_mem_nil, or_false]
      omega
  · unfold zFil
    rw [m0 5 (by decide), m0 6 (by decide), show μ'.1 2 = μ.1 2 from funext fun j => m 2 j (Or.inl (by decide))]
    exact h6
  · rw [c1]; exact r1
  · rw [c1]; exact r2
  · rw [m0 6 (by decide)]; exact r3
  · rw [m0 7 (by decide)]; exact r4
  · rw [m0 7 (by decide), m0 6 (by decide)]; exact r5
  · rw [m 3 j (Or.inr (Or.inl ⟨rfl, by omega⟩))]; exact r6 j j1 j2
section ZT1
variable {I : zSt → zSt → Prop} {σ μ σ1 μ1 : zSt}
theorem zTT.eq (h : zTT I σ μ) {j : Nat} (hj : j ≤ 26) (hn : ¬ j = 1 := by decide) (hw : ¬ j = 20 := by decide) : μ.1 3 j = σ.1 36 j := h.2.1.1 j hj hn hw
noncomputable def zWzz (σ μ : zSt) : Prop := μ.1 3 20 = σ.1 36 20
theorem zWzz.of {σ2 μ2 : zSt} (h : zWzz σ μ) (a : σ2.1 36 20 = σ.1 36 20) (b : μ2.1 3 20 = μ.1 3 20) : zWzz σ2 μ2 := by
  unfold zWzz
  rw [a, b]
  exact h
noncomputable def zF (σ μ : zSt) : Prop := μ.1 3 1 = σ.1 36 1
theorem zF.of {σ2 μ2 : zSt} (h : zF σ μ) (a : σ2.1 36 1 = σ.1 36 1) (b : μ2.1 3 1 = μ.1 3 1) : zF σ2 μ2 := by
  unfold zF
  rw [a, b]
  exact h
theorem zTT.g (h : zTT I σ μ) {j : Nat} (hj : j ≤ 28) : zrg j (σ.1 36 j) := h.2.1.2.2.2 j hj
theorem zTT.b (h : zTT I σ μ) {j : Nat} (hj : j < 16) : zr 0 255 (σ.1 36 j) := (h.g (by omega)).1 hj
theorem zTT.w (h : zTT I σ μ) {j : Nat} (h1 : 16 ≤ j) (h2 : j ≤ 20) : zr 0 65535 (σ.1 36 j) := (h.g (by omega)).2.1 h1 h2
theorem zrg_b {j : Nat} {v : Int32} (hj : j < 16 ∨ j = 21 ∨ j = 22) (h : zr 0 255 v) : zrg j v := ⟨fun _ => h, fun _ _ => zr_w h (by decide), fun _ _ => h, fun _ _ => by omega, fun _ => by omega, fun _ _ => by omega⟩
theorem zrg_w {j : Nat} {v : Int32} (h1 : 16 ≤ j) (h2 : j ≤ 20) (h : zr 0 65535 v) : zrg j v := ⟨fun _ => by omega, fun _ _ => h, fun _ _ => by omega, fun _ _ => by omega, fun _ => by omega, fun _ _ => by omega⟩
theorem zrg_1 {j : Nat} {v : Int32} (h1 : 23 ≤ j) (h2 : j ≤ 28) (h : zr 0 1 v) : zrg j v := ⟨fun _ => by omega, fun _ _ => by omega, fun _ _ => by omega, fun _ _ => h, fun _ => zr_w h (by decide), fun _ _ => h⟩
/-- the end of a stretch: the registers in A are the same, all others are as they were -/
theorem zTT.fin (hI : zIoK I) (h : zTT I σ μ) (A : List Nat) (hm : zM2 σ1 μ1) (qc : zQ [7, 15, 17, 19] (A.map (fun j => (36, j, j))) [] [] σ σ1) (qm : zQ [5, 6] ((0, 31, 33) :: (3, 29, 32) :: A.map (fun j => (3, j, j))) [] [] μ μ1) (hA : A.all (fun j => Nat.ble j 26) = true) (e : zall A (fun j => μ1.1 3 j = σ1.1 36 j ∧ zrg j (σ1.1 36 j))) (hj : zJp σ1 μ1) : zTT I σ1 μ1 := by
  have ea := zall_of e
  rw [List.all_eq_true] at hA
  have nc : ∀ j, ¬ j ∈ A → σ1.1 36 j = σ.1 36 j := fun j hj => qc.1 36 j (by
    unfold zcv
    rw [Bool.or_eq_false_iff]
    refine ⟨rfl, ?_⟩
    rw [List.any_eq_false]
    intro x hx q
    obtain ⟨i, i1, i2⟩ := List.mem_map.mp hx
    subst i2
    rw [Bool.and_eq_true, Bool.and_eq_true] at q
    have a2 := Nat.le_of_ble_eq_true q.2.1
    have a3 := Nat.le_of_ble_eq_true q.2.2
    have e : i = j := by
      have a2 : i ≤ j := a2
      have a3 : j ≤ i := a3
      omega
    exact hj (e ▸ i1))
  have nm : ∀ j, j ≤ 28 → ¬ j ∈ A → μ1.1 3 j = μ.1 3 j := fun j h28 hj => qm.1 3 j (by
    unfold zcv
    rw [Bool.or_eq_false_iff]
    refine ⟨rfl, ?_⟩
    rw [List.any_eq_false]
    intro x hx q
    rw [Bool.and_eq_true, Bool.and_eq_true] at q
    have a1 := Nat.eq_of_beq_eq_true q.1
    have a2 := Nat.le_of_ble_eq_true q.2.1
    have a3 := Nat.le_of_ble_eq_true q.2.2
    rcases List.mem_cons.mp hx with r | r
    · subst r; exact absurd a1 (by decide)
    · rcases List.mem_cons.mp r with r | r
      · subst r
        have a2 : 29 ≤ j := a2
        omega
      · obtain ⟨i, i1, i2⟩ := List.mem_map.mp r
        subst i2
        have a2 : i ≤ j := a2
        have a3 : j ≤ i := a3
        have e : i = j := by omega
        exact hj (e ▸ i1))
  have n27 : ∀ j, 26 < j → ¬ j ∈ A := fun j hj m => by
    have := Nat.le_of_ble_eq_true (hA j m)
    omega
  refine ⟨hm, ⟨fun j hj hn hw => ?_, ?_, ?_, fun j hj => ?_⟩, hj, hI σ μ σ1 μ1 h.2.2.2 ?_ ?_⟩
  · by_cases q : j ∈ A
    · exact (ea j q).1
    · rw [nm j (by omega) q, nc j q]; exact h.2.1.1 j hj hn hw
  · rw [nm 28 (by decide) (n27 28 (by decide)), nc 27 (n27 27 (by decide))]; exact h.2.1.2.1
  · rw [nm 27 (by decide) (n27 27 (by decide)), nc 28 (n27 28 (by decide))]; exact h.2.1.2.2.1
  · by_cases q : j ∈ A
    · exact (ea j q).2
    · rw [nc j q]; exact h.2.1.2.2.2 j hj
  · refine ⟨fun k j q => qc.1 k j ?_, qc.2⟩
    unfold zcv at q ⊢
    rw [Bool.or_eq_false_iff] at q ⊢
    have q1 := q.1
    rw [List.any_eq_false] at q1
    refine ⟨?_, ?_⟩
    · rw [List.any_eq_false]
      intro x hx
      exact q1 x (List.mem_cons_of_mem _ hx)
    · rw [List.any_eq_false]
      intro x hx r
      obtain ⟨i, i1, i2⟩ := List.mem_map.mp hx
      subst i2
      rw [Bool.and_eq_true] at r
      exact q1 36 (List.mem_cons_self) (by rw [← Nat.eq_of_beq_eq_true r.1]; exact Nat.beq_refl 36)
  · refine ⟨fun k j q => qm.1 k j ?_, qm.2⟩
    unfold zcv at q ⊢
    rw [Bool.or_eq_false_iff] at q ⊢
    refine ⟨q.1, ?_⟩
    have q2 := q.2
    rw [List.any_eq_false] at q2
    rw [List.any_eq_false]
    intro x hx r
    rw [Bool.and_eq_true, Bool.and_eq_true] at r
    obtain ⟨r1, r2, r3⟩ := r
    rcases List.mem_cons.mp hx with s | s
    · subst s
      exact q2 (0, 31, 33) (List.mem_cons_of_mem _ List.mem_cons_self) (by rw [r1, r2, r3]; rfl)
    · have a2 := Nat.le_of_ble_eq_true r2
      have a3 := Nat.le_of_ble_eq_true r3
      have k3 : Nat.beq 3 k = true ∧ j ≤ 32 := by
        rcases List.mem_cons.mp s with s | s
        · subst s; exact ⟨r1, a3⟩
        · obtain ⟨i, i1, i2⟩ := List.mem_map.mp s
          subst i2
          have b := Nat.le_of_ble_eq_true (hA i i1)
          have a3 : j ≤ i := a3
          exact ⟨r1, by omega⟩
      exact q2 (3, 0, 32) List.mem_cons_self (by rw [Bool.and_eq_true, Bool.and_eq_true]; exact ⟨k3.1, rfl, Nat.ble_eq.mpr k3.2⟩)
/-- the same where the memory was not written -/
theorem zTT.upd (hI : zIoK I) (h : zTT I σ μ) (A : List Nat) (qc : zQ [] (A.map (fun j => (36, j, j))) [] [] σ σ1) (qm : zQ [] (A.map (fun j => (3, j, j))) [] [] μ μ1) (hA : A.all (fun j => Nat.ble j 26) = true) (e : zall A (fun j => μ1.1 3 j = σ1.1 36 j ∧ zrg j (σ1.1 36 j))) : zTT I σ1 μ1 := by
  have hA' := hA
  rw [List.all_eq_true] at hA'
  have c1 : zsub [] (A.map (fun j => (36, j, j))) [36, 7] [] = true := by
    unfold zsub
    rw [Bool.and_eq_true]
    refine ⟨rfl, ?_⟩
    rw [List.all_eq_true]
    intro x hx
    obtain ⟨i, i1, i2⟩ := List.mem_map.mp hx
    subst i2
    rfl
  have c2 : zsub [] (A.map (fun j => (3, j, j))) [] [(3, 0, 28), (0, 31, 33)] = true := by
    unfold zsub
    rw [Bool.and_eq_true]
    refine ⟨rfl, ?_⟩
    rw [List.all_eq_true]
    intro x hx
    obtain ⟨i, i1, i2⟩ := List.mem_map.mp hx
    subst i2
    have b := Nat.le_of_ble_eq_true (hA' i i1)
    rw [Bool.or_eq_true]
    right
    rw [List.any_eq_true]
    refine ⟨(3, 0, 28), List.mem_cons_self, ?_⟩
    rw [Bool.and_eq_true, Bool.and_eq_true]
    exact ⟨rfl, rfl, Nat.ble_eq.mpr (by show i ≤ 28; omega)⟩
  have c3 : ∀ B : List (Nat × Nat × Nat), zsub [] B [7, 15, 17, 19] B = true := fun B => by
    unfold zsub
    rw [Bool.and_eq_true]
    refine ⟨rfl, ?_⟩
    rw [List.all_eq_true]
    intro x hx
    rw [Bool.or_eq_true]
    right
    rw [List.any_eq_true]
    exact ⟨x, hx, by rw [Bool.and_eq_true, Bool.and_eq_true]; exact ⟨Nat.beq_refl _, Nat.ble_eq.mpr (Nat.le_refl _), Nat.ble_eq.mpr (Nat.le_refl _)⟩⟩
  have c4 : ∀ B : List (Nat × Nat × Nat), zsub [] B [5, 6] ((0, 31, 33) :: (3, 29, 32) :: B) = true := fun B => by
    unfold zsub
    rw [Bool.and_eq_true]
    refine ⟨rfl, ?_⟩
    rw [List.all_eq_true]
    intro x hx
    rw [Bool.or_eq_true]
    right
    rw [List.any_eq_true]
    exact ⟨x, List.mem_cons_of_mem _ (List.mem_cons_of_mem _ hx), by rw [Bool.and_eq_true, Bool.and_eq_true]; exact ⟨Nat.beq_refl _, Nat.ble_eq.mpr (Nat.le_refl _), Nat.ble_eq.mpr (Nat.le_refl _)⟩⟩
  have e7 : ∀ i, σ1.1 7 i = σ.1 7 i := fun i => qc.1 7 i (by
    unfold zcv
    rw [Bool.or_eq_false_iff]
    refine ⟨rfl, ?_⟩
    rw [List.any_eq_false]
    intro x hx q
    obtain ⟨i, i1, i2⟩ := List.mem_map.mp hx
    subst i2
    rw [Bool.and_eq_true] at q
    exact absurd (show (36 : Nat) = 7 from Nat.eq_of_beq_eq_true q.1) (by decide))
  have e0 : ∀ i, μ1.1 0 i = μ.1 0 i := fun i => qm.1 0 i (by
    unfold zcv
    rw [Bool.or_eq_false_iff]
    refine ⟨rfl, ?_⟩
    rw [List.any_eq_false]
    intro x hx q
    obtain ⟨i, i1, i2⟩ := List.mem_map.mp hx
    subst i2
    rw [Bool.and_eq_true] at q
    exact absurd (show (3 : Nat) = 0 from Nat.eq_of_beq_eq_true q.1) (by decide))
  refine h.fin hI A (h.1.keep (qc.mono c1 rfl) (qm.mono c2 rfl)) (qc.mono (c3 _) rfl) (qm.mono (c4 _) rfl) hA e ?_
  have hj := h.2.2.1
  unfold zJp at hj ⊢
  rw [e7, e0]
  exact hj
/-- F or WZ on one side alone -/
theorem zTT.onC (hI : zIoK I) (h : zTT I σ μ) {i : Nat} {v : Int32} (hi : i = 1 ∨ i = 20) (hv : zrg i v) : zTT I (zsi σ 36 i v) μ := by
  refine ⟨h.1.keep (zQ.wi zQ.rf rfl) zQ.rf, ⟨fun j hj hn hw => ?_, ?_, ?_, fun j hj => ?_⟩, h.2.2.1.imp (fun x => x) (fun x => x), hI _ _ _ _ h.2.2.2 (zQ.wi zQ.rf rfl) zQ.rf⟩
  · rw [zsi_nj (by omega)]; exact h.2.1.1 j hj hn hw
  · rw [zsi_nj (by omega)]; exact h.2.1.2.1
  · rw [zsi_nj (by omega)]; exact h.2.1.2.2.1
  · by_cases q : j = i
    · rw [q, zsi_ej]; exact hv
    · rw [zsi_nj q]; exact h.2.1.2.2.2 j hj
theorem zTT.onM (hI : zIoK I) (h : zTT I σ μ) {i : Nat} {w : Int32} (hi : i = 1 ∨ i = 20) : zTT I σ (zsi μ 3 i w) := by
  have qm : zQ [] [(3, 0, 28), (0, 31, 33)] [] [] μ (zsi μ 3 i w) := by
    rcases hi with e | e <;> subst e <;> exact zQ.wi zQ.rf rfl
  refine ⟨h.1.keep zQ.rf qm, ⟨fun j hj hn hw => ?_, ?_, ?_, h.2.1.2.2.2⟩, h.2.2.1.imp (fun x => x) (fun x => x), hI _ _ _ _ h.2.2.2 zQ.rf (qm.mono rfl rfl)⟩
  · rw [zsi_nj (by omega)]; exact h.2.1.1 j hj hn hw
  · rw [zsi_nj (by omega)]; exact h.2.1.2.1
  · rw [zsi_nj (by omega)]; exact h.2.1.2.2.1
end ZT1
end ZJN22
section ZJN23
/-! HELPERS OF BOTH PROCESSORS -/
theorem zFw.q {σ σ' : zSt} (h : zFw σ σ') : zQ [15, 17, 19] [] [] [] σ σ' := by
  refine ⟨fun k j c => ?_, fun k j _ => by rw [h.2]⟩
  have n : ∀ i, i ∈ [15, 17, 19] → ¬ k = i := fun i hi e => by
    unfold zcv at c
    rw [Bool.or_eq_false_iff, List.any_eq_false] at c
    exact c.1 i hi (by rw [e]; exact Nat.beq_refl i)
  rw [h.1 k (n 15 (by decide)) (n 17 (by decide)) (n 19 (by decide))]
theorem zFv.q {μ μ' : zSt} (h : zFv μ μ') : zQ [5, 6] [(3, 29, 32)] [] [] μ μ' := by
  refine ⟨fun k j c => ?_, fun k j _ => by rw [h.2.2]⟩
  unfold zcv at c
  rw [Bool.or_eq_false_iff, List.any_eq_false, List.any_eq_false] at c
  have n : ∀ i, i ∈ [5, 6] → ¬ k = i := fun i hi e => c.1 i hi (by rw [e]; exact Nat.beq_refl i)
  by_cases e : k = 3
  · subst e
    refine h.2.1 j ?_
    by_cases q : j < 29
    · exact Or.inl q
    · by_cases r : 32 < j
      · exact Or.inr r
      · exact absurd (show (Nat.beq 3 3 && (Nat.ble 29 j && Nat.ble j 32)) = true by rw [Bool.and_eq_true, Bool.and_eq_true]; exact ⟨rfl, Nat.ble_eq.mpr (by omega), Nat.ble_eq.mpr (by omega)⟩) (c.2 (3, 29, 32) List.mem_cons_self)
  · rw [h.1 k e (n 5 (by decide)) (n 6 (by decide))]
section ZT3
variable {I : zSt → zSt → Prop} {σ μ : zSt} {α β : Type} {Q : α → β → Prop}
theorem zM2.rd (h : zM2 σ μ) {x y : Int32} (e : y &&& 65535 = x &&& 65535) : zp2 (fX2_read σ x) (fX12_read μ y) (fun r r' => r.1 = σ ∧ r'.1 = μ ∧ r'.2 = r.2 ∧ zr 0 255 r.2) := by
  rw [← z_rdc (a := x), ← z_rdm (a := y), e]
  exact zp2_mono (zp2_andr (z2_read h.1 h.2) p_readr) (fun a b q => ⟨q.1.1, q.1.2.1, q.1.2.2.symm, by rw [q.1.2.2]; exact q.2⟩)
/-- both read, and go on -/
theorem zp2_rd (h : zM2 σ μ) {x y : Int32} (e : y &&& 65535 = x &&& 65535) {f : zSt → Int32 → Option α} {g : zSt → Int32 → Option β} (k : ∀ v, zr 0 255 v → zp2 (f σ v) (g μ v) Q) : zp2 (zbi (fX2_read σ x) f) (zbi (fX12_read μ y) g) Q := by
  refine zp2_bii (h.rd e) (fun s v t w q => ?_)
  obtain ⟨q1, q2, q3, q4⟩ := q
  have q1 : s = σ := q1
  have q2 : t = μ := q2
  have q3 : w = v := q3
  subst q1
  subst q2
  subst q3
  exact k w q4
theorem zM2.wr (h : zM2 σ μ) {x y v w : Int32} (e : y &&& 65535 = x &&& 65535) (f : w &&& 255 = v) (hv : zr 0 255 v) : zp2 (fX2_write σ x v) (fX12_write μ y w) (fun r r' => zM2 r r' ∧ zQ [15, 17, 19] [] [] [] σ r ∧ zQ [5, 6] [(3, 29, 32)] [] [] μ r') := by
  have e1 : fX2_write σ x v = fX2_write σ (x &&& 65535) v := by unfold fX2_write; rw [z_mm]
  rw [e1, ← z_wrm (a := y), ← z_wrb (v := w), e, f]
  refine zp2_mono (zp2_andr (z2_write h.1 h.2 hv) (p_writer h.2.2.2.2.2.2)) (fun r r' q => ?_)
  obtain ⟨⟨q1, q2, q3⟩, q4⟩ := q
  exact ⟨⟨q1, h.2.of q2 q3 q4⟩, q2.q, q3.q⟩
/-- both write, and go on -/
theorem zp2_wr (h : zM2 σ μ) {x y v w : Int32} (e : y &&& 65535 = x &&& 65535) (f : w &&& 255 = v) (hv : zr 0 255 v) {F : zSt → Option α} {G : zSt → Option β} (k : ∀ s t, zM2 s t → zQ [15, 17, 19] [] [] [] σ s → zQ [5, 6] [(3, 29, 32)] [] [] μ t → zp2 (F s) (G t) Q) : zp2 (zbu (fX2_write σ x v) F) (zbu (fX12_write μ y w) G) Q := zp2_buu (h.wr e f hv) (fun s t q => k s t q.1 q.2.1 q.2.2)
theorem z_r8 (x : Int32) : zr 0 255 (x &&& 255) := zr_andr (lo := 0) (hi := 255) (zr_c (lo := 255) (hi := 255) (by decide)) (by decide)
theorem z_r16 (x : Int32) : zr 0 65535 (x &&& 65535) := zr_andr (lo := 0) (hi := 65535) (zr_c (lo := 65535) (hi := 65535) (by decide)) (by decide)
theorem z_rw {a b : Int32} (ha : zr 0 255 a) (hb : zr 0 255 b) : zr 0 65535 (a ||| (b <<< ((8 : Int32) &&& 31))) := zr_or (lo := 0) (hi := 65535) 16 ha (zr_shl (lo := 0) (hi := 65280) 8 (by decide) hb (by decide)) (by decide)
theorem z_rw' {a b : Int32} (ha : zr 0 255 a) (hb : zr 0 255 b) : zr 0 65535 ((a <<< ((8 : Int32) &&& 31)) ||| b) := zr_or (lo := 0) (hi := 65535) 16 (zr_shl (lo := 0) (hi := 65280) 8 (by decide) ha (by decide)) hb (by decide)
theorem z_m255 {v : Int32} (h : zr 0 255 v) : v &&& 255 = v := Int32.toInt_inj.mp (by rw [z_mask (k := 8) h.1 rfl (by decide)]; have := h.1; have := h.2; show v.toInt % 256 = _; omega)
theorem z_65 {v : Int32} (h : zr 0 65535 v) : v &&& 65535 = v := Int32.toInt_inj.mp (by rw [z_mask (k := 16) h.1 rfl (by decide)]; have := h.1; have := h.2; show v.toInt % 65536 = _; omega)
theorem z_hi {w : Int32} (h : zr 0 65535 w) : zr 0 255 (w >>> ((8 : Int32) &&& 31)) := by
  have e := z_quo (k := 8) (s := (8 : Int32) &&& 31) h.1 rfl
  have h1 := h.1
  have h2 := h.2
  exact ⟨by rw [e]; show 0 ≤ w.toInt / 256; omega, by rw [e]; show w.toInt / 256 ≤ 255; omega⟩
theorem z_hi8 {w : Int32} (h : zr 0 65535 w) : (w >>> ((8 : Int32) &&& 31)) &&& 255 = w >>> ((8 : Int32) &&& 31) := z_m255 (z_hi h)
/-- fetching -/
theorem t_next (hI : zIoK I) (h : zTT I σ μ) : zp2 (fX5_fetch σ ) (fX12_next μ ) (fun r r' => zTT I r.1 r'.1 ∧ r'.2 = r.2 ∧ zr 0 255 r.2 ∧ zQ [] [(36, 19, 19)] [] [] σ r.1 ∧ zQ [] [(3, 19, 19)] [] [] μ r'.1) := by
  unfold fX5_fetch fX12_next
  have e : zgi μ 3 (19 : Int32).toNatClampNeg = zgi σ 36 (19 : Int32).toNatClampNeg := h.eq (j := 19) (by decide)
  refine zp2_ckl (zp2_ckr (zp2_rd h.1 (by rw [e]) (fun v hv => ?_)))
  refine zp2_ckl (zp2_ckl (zp2_bvl (fun s es => zp2_ckr (zp2_ckr (zp2_bvr (fun t et => zp2_some ⟨?_, rfl, hv, ?_, ?_⟩))))))
  · subst es
    subst et
    refine h.upd hI [19] (zQ.wi zQ.rf rfl) (zQ.wi zQ.rf rfl) rfl (zAl1 ⟨?_, zrg_w (by decide) (by decide) (z_r16 _)⟩)
    show (μ.1 3 19 + 1) &&& 65535 = (σ.1 36 19 + 1) &&& 65535
    rw [h.eq (by decide)]
  · subst es; exact zQ.wi zQ.rf rfl
  · subst et; exact zQ.wi zQ.rf rfl
theorem t_op (hI : zIoK I) (h : zTT I σ μ) : zp2 (fX5_fetchOp σ ) (fX12_fetch μ ) (fun r r' => zTT I r.1 r'.1 ∧ r'.2 = r.2 ∧ zr 0 255 r.2 ∧ zQ [] [(36, 19, 19), (36, 22, 22)] [] [] σ r.1 ∧ zQ [] [(3, 19, 19), (3, 22, 22)] [] [] μ r'.1) := by
  unfold fX5_fetchOp fX12_fetch fX5_growR fX5_fetch fX12_next fX12_grows
  have e : μ.1 3 19 = σ.1 36 19 := h.eq (j := 19) (by decide)
  refine zp2_bul (P := fun r => r = zsi σ 36 22 (((zgi σ 36 (22 : Int32).toNatClampNeg) &&& 128) ||| (((zgi σ 36 (22 : Int32).toNatClampNeg) + 1) &&& 127))) (zpc_ck (zpc_ck (zpc_ck (zpc_bv (fun s es => zpc_some es))))) (fun s es => ?_)
  have hm : zM2 s μ := h.1.keep (by subst es; exact zQ.wi zQ.rf rfl) zQ.rf
  have e19 : s.1 36 19 = σ.1 36 19 := by subst es; rfl
  refine zp2_bilp (P := fun r r' => r'.2 = r.2 ∧ zr 0 255 r.2 ∧ r.1 = zsi s 36 19 ((s.1 36 19 + 1) &&& 65535) ∧ r'.1 = zsi (zsi μ 3 19 ((μ.1 3 19 + 1) &&& 65535)) 3 22 ((μ.1 3 22 &&& 128) ||| ((μ.1 3 22 + 1) &&& 127))) ?_ (fun s1 v r' q => zp2_some ?_)
  · -- the reference's fetch, as one
    refine zp2_ckl ?_
    have d : zp2 (fX2_read s (zgi s 36 (19 : Int32).toNatClampNeg)) (fX12_read μ (zgi μ 3 (19 : Int32).toNatClampNeg)) _ := hm.rd (by rw [show zgi s 36 (19 : Int32).toNatClampNeg = σ.1 36 19 from e19, show zgi μ 3 (19 : Int32).toNatClampNeg = σ.1 36 19 from e])
    intro a b ea eb
    cases qa : fX2_read s (zgi s 36 (19 : Int32).toNatClampNeg) with
    | none => rw [qa] at ea; cases ea
    | some x =>
      cases qb : fX12_read μ (zgi μ 3 (19 : Int32).toNatClampNeg) with
      | none => rw [qb] at eb; cases eb
      | some y =>
        obtain ⟨x1, x2⟩ := x
        obtain ⟨y1, y2⟩ := y
        obtain ⟨q1, q2, q3, q4⟩ := d _ _ qa qb
        have q1 : x1 = s := q1
        have q2 : y1 = μ := q2
        have q3 : y2 = x2 := q3
        have q4 : zr 0 255 x2 := q4
        subst q1
        subst q2
        subst q3
        rw [qa] at ea
        rw [qb] at eb
        have ea : some (zsi x1 36 19 ((x1.1 36 19 + 1) &&& 65535), y2) = some a := ea
        have eb : some (zsi (zsi y1 3 19 ((y1.1 3 19 + 1) &&& 65535)) 3 22 ((y1.1 3 22 &&& 128) ||| ((y1.1 3 22 + 1) &&& 127)), y2) = some b := eb
        cases ea
        cases eb
        exact ⟨rfl, q4, rfl, rfl⟩
  · obtain ⟨q1, q2, q3, q4⟩ := q
    have q3 : s1 = zsi s 36 19 ((s.1 36 19 + 1) &&& 65535) := q3
    refine ⟨?_, q1, q2, ?_, ?_⟩
    · show zTT I s1 r'.1
      rw [q3, q4, es]
      refine h.upd hI [19, 22] (zQ.wi (zQ.wi zQ.rf rfl) rfl) (zQ.wi (zQ.wi zQ.rf rfl) rfl) rfl (zAl2 ⟨?_, zrg_w (by decide) (by decide) (z_r16 _)⟩ ⟨?_, zrg_b (Or.inr (Or.inr rfl)) (zr_or (lo := 0) (hi := 255) 8 (zr_andr (lo := 0) (hi := 128) (zr_c (lo := 128) (hi := 128) (by decide)) (by decide)) (zr_andr (lo := 0) (hi := 127) (zr_c (lo := 127) (hi := 127) (by decide)) (by decide)) (by decide))⟩)
      · show (μ.1 3 19 + 1) &&& 65535 = (σ.1 36 19 + 1) &&& 65535
        rw [e]
      · show (μ.1 3 22 &&& 128) ||| ((μ.1 3 22 + 1) &&& 127) = (σ.1 36 22 &&& 128) ||| ((σ.1 36 22 + 1) &&& 127)
        rw [h.eq (by decide)]
    · show zQ _ _ _ _ σ s1
      rw [q3, es]
      exact zQ.wi (zQ.wi zQ.rf rfl) rfl
    · rw [q4]
      exact zQ.wi (zQ.wi zQ.rf rfl) rfl
theorem t_word (hI : zIoK I) (h : zTT I σ μ) : zp2 (fX5_fetchWord σ ) (fX12_nextWord μ ) (fun r r' => zTT I r.1 r'.1 ∧ r'.2 = r.2 ∧ zr 0 65535 r.2 ∧ zQ [] [(36, 19, 19)] [] [] σ r.1 ∧ zQ [] [(3, 19, 19)] [] [] μ r'.1) := by
  unfold fX5_fetchWord fX12_nextWord fX12_next
  have e : μ.1 3 19 = σ.1 36 19 := h.eq (j := 19) (by decide)
  intro a b ea eb
  have d1 := h.1.rd (x := zgi σ 36 (19 : Int32).toNatClampNeg) (y := zgi μ 3 (19 : Int32).toNatClampNeg) (by rw [show zgi μ 3 (19 : Int32).toNatClampNeg = zgi σ 36 (19 : Int32).toNatClampNeg from e])
  cases qa : fX2_read σ (zgi σ 36 (19 : Int32).toNatClampNeg) with
  | none => rw [qa] at ea; cases ea
  | some x =>
    cases qb : fX12_read μ (zgi μ 3 (19 : Int32).toNatClampNeg) with
    | none => rw [qb] at eb; cases eb
    | some y =>
      obtain ⟨x1, x2⟩ := x
      obtain ⟨y1, y2⟩ := y
      obtain ⟨q1, q2, q3, q4⟩ := d1 _ _ qa qb
      have q1 : x1 = σ := q1
      have q2 : y1 = μ := q2
      have q3 : y2 = x2 := q3
      have q4 : zr 0 255 x2 := q4
      subst q1
      subst q2
      subst q3
      rw [qa] at ea
      rw [qb] at eb
      have hm : zM2 x1 (zsi y1 3 19 ((y1.1 3 19 + 1) &&& 65535)) := h.1.keep zQ.rf (zQ.wi zQ.rf rfl)
      have d2 := hm.rd (x := zgi x1 36 (19 : Int32).toNatClampNeg + 1) (y := (y1.1 3 19 + 1) &&& 65535) (by rw [z_mm, e]; rfl)
      cases ra : fX2_read x1 (zgi x1 36 (19 : Int32).toNatClampNeg + 1) with
      | none => 
        have ea : zbi (fX2_read x1 (zgi x1 36 (19 : Int32).toNatClampNeg + 1)) (fun σ3 v4 => some (zsi σ3 36 19 (((zgi σ3 36 19) + 2) &&& 65535), y2 ||| (v4 <<< ((8 : Int32) &&& 31)))) = some a := ea
        rw [ra] at ea; cases ea
      | some u =>
        have ea : zbi (fX2_read x1 (zgi x1 36 (19 : Int32).toNatClampNeg + 1)) (fun σ3 v4 => some (zsi σ3 36 19 (((zgi σ3 36 19) + 2) &&& 65535), y2 ||| (v4 <<< ((8 : Int32) &&& 31)))) = some a := ea
        have eb : zbi (zbi (fX12_read (zsi y1 3 19 ((y1.1 3 19 + 1) &&& 65535)) ((y1.1 3 19 + 1) &&& 65535)) (fun σ3 v4 => some (zsi σ3 3 19 (((zgi σ3 3 19) + 1) &&& 65535), v4))) (fun σ3 v4 => some (σ3, y2 ||| (v4 <<< ((8 : Int32) &&& 31)))) = some b := eb
        cases rb : fX12_read (zsi y1 3 19 ((y1.1 3 19 + 1) &&& 65535)) ((y1.1 3 19 + 1) &&& 65535) with
        | none => rw [rb] at eb; cases eb
        | some w =>
          obtain ⟨u1, u2⟩ := u
          obtain ⟨w1, w2⟩ := w
          obtain ⟨p1, p2, p3, p4⟩ := d2 _ _ ra rb
          have p1 : u1 = x1 := p1
          have p2 : w1 = zsi y1 3 19 ((y1.1 3 19 + 1) &&& 65535) := p2
          have p3 : w2 = u2 := p3
          have p4 : zr 0 255 u2 := p4
          rw [ra] at ea
          rw [rb] at eb
          have ea : some (zsi u1 36 19 ((u1.1 36 19 + 2) &&& 65535), y2 ||| (u2 <<< ((8 : Int32) &&& 31))) = some a := ea
          have eb : some (zsi w1 3 19 ((w1.1 3 19 + 1) &&& 65535), y2 ||| (w2 <<< ((8 : Int32) &&& 31))) = some b := eb
          subst p1
          subst p2
          subst p3
          cases ea
          cases eb
          refine ⟨?_, rfl, z_rw q4 p4, zQ.wi zQ.rf rfl, zQ.wi (zQ.wi zQ.rf rfl) rfl⟩
          refine h.upd hI [19] (zQ.wi zQ.rf rfl) (zQ.wi (zQ.wi zQ.rf rfl) rfl) rfl (zAl1 ⟨?_, zrg_w (by decide) (by decide) (z_r16 _)⟩)
          show (((y1.1 3 19 + 1) &&& 65535) + 1) &&& 65535 = (u1.1 36 19 + 2) &&& 65535
          rw [z_p1, e]
/-- words of the memory -/
theorem t_rword (h : zM2 σ μ) {x y : Int32} (e : y = x) : zp2 (fX5_readWord σ x) (fX12_word μ y) (fun r r' => r.1 = σ ∧ r'.1 = μ ∧ r'.2 = r.2 ∧ zr 0 65535 r.2) := by
  subst e
  unfold fX5_readWord fX12_word
  exact zp2_rd h rfl (fun v hv => zp2_rd h rfl (fun w hw => zp2_some ⟨rfl, rfl, rfl, z_rw hv hw⟩))
theorem t_wword (h : zM2 σ μ) {x y v w : Int32} (e : y = x) (f : w = v) (hv : zr 0 65535 v) : zp2 (fX5_writeWord σ x v) (fX12_wordTo μ y w) (fun r r' => zM2 r r' ∧ zQ [15, 17, 19] [] [] [] σ r ∧ zQ [5, 6] [(3, 29, 32)] [] [] μ r') := by
  subst e
  subst f
  unfold fX5_writeWord fX12_wordTo
  exact zp2_wr h rfl rfl (z_r8 _) (fun s t hm q1 q2 => zp2_wr hm rfl (z_hi8 hv) (z_hi hv) (fun s1 t1 hm1 p1 p2 => zp2_some ⟨hm1, q1.tr p1, q2.tr p2⟩))
end ZT3
end ZJN23
section ZJN24
/-! HELPERS, PART 2: stack, pairs, single registers -/
theorem z_m2 (a : Int32) : (((a - 1) &&& 65535) - 1) &&& 65535 = (a - 2) &&& 65535 := by
  refine Int32.toBitVec_inj.1 ?_
  rw [Int32.toBitVec_and, Int32.toBitVec_and, Int32.toBitVec_sub, Int32.toBitVec_and, Int32.toBitVec_sub, Int32.toBitVec_sub]
  refine BitVec.eq_of_toNat_eq ?_
  rw [BitVec.toNat_and, BitVec.toNat_and, BitVec.toNat_sub, BitVec.toNat_and, BitVec.toNat_sub, BitVec.toNat_sub]
  rw [show (65535 : Int32).toBitVec.toNat = 2 ^ 16 - 1 from rfl, show (1 : Int32).toBitVec.toNat = 1 from rfl, show (2 : Int32).toBitVec.toNat = 2 from rfl, Nat.and_two_pow_sub_one_eq_mod, Nat.and_two_pow_sub_one_eq_mod, Nat.and_two_pow_sub_one_eq_mod]
  have := a.toBitVec.isLt
  omega
theorem zJp.of {σ μ σ1 μ1 : zSt} (h : zJp σ μ) (e7 : σ1.1 7 4 = σ.1 7 4) (e0 : μ1.1 0 31 = μ.1 0 31) : zJp σ1 μ1 := by
  unfold zJp
  rw [e7, e0]
  exact h
/-- where M is -/
noncomputable def zPlc (σ μ : zSt) : Prop := (μ.1 0 32 = 0 ∧ σ.1 7 5 = ((σ.1 36 6 <<< ((8 : Int32) &&& 31)) ||| σ.1 36 7)) ∨ (¬ μ.1 0 32 = 0 ∧ σ.1 7 5 = μ.1 3 20)
theorem zPlc.of {σ μ σ1 μ1 : zSt} (h : zPlc σ μ) (a : σ1.1 7 5 = σ.1 7 5) (b : σ1.1 36 6 = σ.1 36 6) (c : σ1.1 36 7 = σ.1 36 7) (d : μ1.1 3 20 = μ.1 3 20) (e : μ1.1 0 32 = μ.1 0 32) : zPlc σ1 μ1 := by
  unfold zPlc
  rw [a, b, c, d, e]
  exact h
section ZT4
variable {I : zSt → zSt → Prop} {σ μ : zSt}
theorem t_push (hI : zIoK I) (h : zTT I σ μ) {v w : Int32} (e : w = v) (hv : zr 0 65535 v) : zp2 (fX5_push σ v) (fX12_push μ w) (fun r r' => zTT I r r' ∧ zQ [15, 17, 19] [(36, 18, 18)] [] [] σ r ∧ zQ [5, 6] [(3, 18, 18), (3, 29, 32)] [] [] μ r') := by
  subst e
  unfold fX5_push fX12_push
  have e18 : μ.1 3 18 = σ.1 36 18 := h.eq (by decide)
  refine zp2_ckl (zp2_ckr (zp2_ckr (zp2_bvr (fun t1 f1 => zp2_ckr ?_))))
  have q0 : zQ [5, 6] [(3, 18, 18), (3, 29, 32)] [] [] μ t1 := by subst f1; exact zQ.wi zQ.rf rfl
  have hm1 : zM2 σ t1 := h.1.keep zQ.rf (by subst f1; exact zQ.wi zQ.rf rfl)
  have g1 : t1.1 3 18 = (σ.1 36 18 - 1) &&& 65535 := by subst f1; show (μ.1 3 18 - 1) &&& 65535 = _; rw [e18]
  refine zp2_wr hm1 (by rw [show zgi t1 3 (18 : Int32).toNatClampNeg = (σ.1 36 18 - 1) &&& 65535 from g1, z_mm]; rfl) (z_hi8 hv) (z_hi hv) (fun s1 t2 hm2 q1 q2 => ?_)
  have g2 : t2.1 3 18 = (σ.1 36 18 - 1) &&& 65535 := (q2.1 3 18 rfl).trans g1
  have c2 : s1.1 36 18 = σ.1 36 18 := q1.1 36 18 rfl
  refine zp2_ckl (zp2_ckr (zp2_ckr (zp2_bvr (fun t3 f3 => zp2_ckr ?_))))
  have hm3 : zM2 s1 t3 := hm2.keep zQ.rf (by subst f3; exact zQ.wi zQ.rf rfl)
  have q3 : zQ [5, 6] [(3, 18, 18), (3, 29, 32)] [] [] μ t3 := by subst f3; exact zQ.wi (q0.tr (q2.mono rfl rfl)) rfl
  have g3 : t3.1 3 18 = (σ.1 36 18 - 2) &&& 65535 := by subst f3; show (t2.1 3 18 - 1) &&& 65535 = _; rw [g2, z_m2]
  refine zp2_wr hm3 (by rw [show zgi t3 3 (18 : Int32).toNatClampNeg = (σ.1 36 18 - 2) &&& 65535 from g3, z_mm, show zgi s1 36 (18 : Int32).toNatClampNeg = σ.1 36 18 from c2]) rfl (z_r8 _) (fun s2 t4 hm4 q4 q5 => ?_)
  have c4 : s2.1 36 18 = σ.1 36 18 := (q4.1 36 18 rfl).trans c2
  refine zp2_ckl (zp2_ckl (zp2_bvl (fun s3 f4 => zp2_some ?_)))
  have qc : zQ [15, 17, 19] [(36, 18, 18)] [] [] σ s3 := by subst f4; exact zQ.wi ((q1.tr q4).mono rfl rfl) rfl
  have qm : zQ [5, 6] [(3, 18, 18), (3, 29, 32)] [] [] μ t4 := q3.tr (q5.mono rfl rfl)
  refine ⟨h.fin hI [18] (hm4.keep (by subst f4; exact zQ.wi zQ.rf rfl) zQ.rf) (qc.mono rfl rfl) (qm.mono rfl rfl) rfl (zAl1 ⟨?_, ?_⟩) (h.2.2.1.of (qc.1 7 4 rfl) (qm.1 0 31 rfl)), qc, qm⟩
  · rw [(q5.1 3 18 rfl).trans g3]
    subst f4
    show _ = (s2.1 36 18 - 2) &&& 65535
    rw [c4]
  · subst f4
    exact zrg_w (by decide) (by decide) (z_r16 _)
theorem t_pop (hI : zIoK I) (h : zTT I σ μ) : zp2 (fX5_pop σ ) (fX12_pop μ ) (fun r r' => zTT I r.1 r'.1 ∧ r'.2 = r.2 ∧ zr 0 65535 r.2 ∧ zQ [] [(36, 18, 18)] [] [] σ r.1 ∧ zQ [] [(3, 18, 18)] [] [] μ r'.1) := by
  unfold fX5_pop fX12_pop
  have e18 : μ.1 3 18 = σ.1 36 18 := h.eq (by decide)
  refine zp2_ckl (zp2_ckr (zp2_rd h.1 (by rw [show zgi μ 3 (18 : Int32).toNatClampNeg = zgi σ 36 (18 : Int32).toNatClampNeg from e18]) (fun v hv => ?_)))
  refine zp2_ckl (zp2_ckr (zp2_ckr (zp2_bvr (fun t1 f1 => zp2_ckr ?_))))
  have hm1 : zM2 σ t1 := h.1.keep zQ.rf (by subst f1; exact zQ.wi zQ.rf rfl)
  have g1 : t1.1 3 18 = (σ.1 36 18 + 1) &&& 65535 := by subst f1; show (μ.1 3 18 + 1) &&& 65535 = _; rw [e18]
  refine zp2_rd hm1 (by rw [show zgi t1 3 (18 : Int32).toNatClampNeg = (σ.1 36 18 + 1) &&& 65535 from g1, z_mm]; rfl) (fun w hw => ?_)
  refine zp2_bvl (fun y ey => zp2_bvr (fun z ez => ?_))
  refine zp2_ckl (zp2_ckl (zp2_bvl (fun s2 f2 => zp2_ckr (zp2_ckr (zp2_bvr (fun t2 f3 => zp2_some ?_))))))
  have qc : zQ [] [(36, 18, 18)] [] [] σ s2 := by subst f2; exact zQ.wi zQ.rf rfl
  have qm : zQ [] [(3, 18, 18)] [] [] μ t2 := by subst f3; subst f1; exact zQ.wi (zQ.wi zQ.rf rfl) rfl
  refine ⟨h.upd hI [18] qc qm rfl (zAl1 ⟨?_, ?_⟩), ez.trans ey.symm, by rw [ey]; exact z_rw hv hw, qc, qm⟩
  · subst f2
    subst f3
    show (t1.1 3 18 + 1) &&& 65535 = (σ.1 36 18 + 2) &&& 65535
    rw [g1, z_p1]
  · subst f2
    exact zrg_w (by decide) (by decide) (z_r16 _)
theorem t_pair0 (h : zTT I σ μ) (hF : zF σ μ) : zp2 (fX5_pairAt σ 0) (fX12_pair μ 0) (fun r r' => r.1 = σ ∧ r'.1 = μ ∧ r'.2 = r.2 ∧ zr 0 65535 r.2) := by
  unfold fX5_pairAt fX12_pair
  refine zp2_ckl (zp2_ckl (zp2_ckr (zp2_ckr (zp2_some ⟨rfl, rfl, ?_, z_rw' (h.b (j := 0) (by decide)) (h.b (j := 1) (by decide))⟩))))
  show (μ.1 3 0 <<< ((8 : Int32) &&& 31)) ||| μ.1 3 1 = (σ.1 36 0 <<< ((8 : Int32) &&& 31)) ||| σ.1 36 1
  rw [h.eq (by decide), show μ.1 3 1 = σ.1 36 1 from hF]
theorem t_pairTo0 (hI : zIoK I) (h : zTT I σ μ) {v w : Int32} (e : w = v) : zp2 (fX5_putPairAt σ 0 v) (fX12_pairTo μ 0 w) (fun r r' => zTT I r r' ∧ zF r r' ∧ zQ [] [(36, 0, 0), (36, 1, 1)] [] [] σ r ∧ zQ [] [(3, 0, 0), (3, 1, 1)] [] [] μ r') := by
  subst e
  unfold fX5_putPairAt fX12_pairTo
  refine zp2_ckl (zp2_bvl (fun s1 f1 => zp2_ckl (zp2_bvl (fun s2 f2 => zp2_ckr (zp2_bvr (fun t1 g1 => zp2_ckr (zp2_bvr (fun t2 g2 => zp2_some ?_))))))))
  subst f2
  subst f1
  subst g2
  subst g1
  exact ⟨h.upd hI [0, 1] (zQ.wi (zQ.wi zQ.rf rfl) rfl) (zQ.wi (zQ.wi zQ.rf rfl) rfl) rfl (zAl2 ⟨rfl, zrg_b (Or.inl (by decide)) (z_r8 _)⟩ ⟨rfl, zrg_b (Or.inl (by decide)) (z_r8 _)⟩), rfl, zQ.wi (zQ.wi zQ.rf rfl) rfl, zQ.wi (zQ.wi zQ.rf rfl) rfl⟩
theorem t_pair2 (h : zTT I σ μ) : zp2 (fX5_pairAt σ 2) (fX12_pair μ 2) (fun r r' => r.1 = σ ∧ r'.1 = μ ∧ r'.2 = r.2 ∧ zr 0 65535 r.2) := by
  unfold fX5_pairAt fX12_pair
  refine zp2_ckl (zp2_ckl (zp2_ckr (zp2_ckr (zp2_some ⟨rfl, rfl, ?_, z_rw' (h.b (j := 2) (by decide)) (h.b (j := 3) (by decide))⟩))))
  show (μ.1 3 2 <<< ((8 : Int32) &&& 31)) ||| μ.1 3 3 = (σ.1 36 2 <<< ((8 : Int32) &&& 31)) ||| σ.1 36 3
  rw [h.eq (by decide), h.eq (by decide)]
theorem t_pairTo2 (hI : zIoK I) (h : zTT I σ μ) {v w : Int32} (e : w = v) : zp2 (fX5_putPairAt σ 2 v) (fX12_pairTo μ 2 w) (fun r r' => zTT I r r' ∧ zQ [] [(36, 2, 2), (36, 3, 3)] [] [] σ r ∧ zQ [] [(3, 2, 2), (3, 3, 3)] [] [] μ r') := by
  subst e
  unfold fX5_putPairAt fX12_pairTo
  refine zp2_ckl (zp2_bvl (fun s1 f1 => zp2_ckl (zp2_bvl (fun s2 f2 => zp2_ckr (zp2_bvr (fun t1 g1 => zp2_ckr (zp2_bvr (fun t2 g2 => zp2_some ?_))))))))
  subst f2
  subst f1
  subst g2
  subst g1
  exact ⟨h.upd hI [2, 3] (zQ.wi (zQ.wi zQ.rf rfl) rfl) (zQ.wi (zQ.wi zQ.rf rfl) rfl) rfl (zAl2 ⟨rfl, zrg_b (Or.inl (by decide)) (z_r8 _)⟩ ⟨rfl, zrg_b (Or.inl (by decide)) (z_r8 _)⟩), zQ.wi (zQ.wi zQ.rf rfl) rfl, zQ.wi (zQ.wi zQ.rf rfl) rfl⟩
theorem t_pair4 (h : zTT I σ μ) : zp2 (fX5_pairAt σ 4) (fX12_pair μ 4) (fun r r' => r.1 = σ ∧ r'.1 = μ ∧ r'.2 = r.2 ∧ zr 0 65535 r.2) := by
  unfold fX5_pairAt fX12_pair
  refine zp2_ckl (zp2_ckl (zp2_ckr (zp2_ckr (zp2_some ⟨rfl, rfl, ?_, z_rw' (h.b (j := 4) (by decide)) (h.b (j := 5) (by decide))⟩))))
  show (μ.1 3 4 <<< ((8 : Int32) &&& 31)) ||| μ.1 3 5 = (σ.1 36 4 <<< ((8 : Int32) &&& 31)) ||| σ.1 36 5
  rw [h.eq (by decide), h.eq (by decide)]
theorem t_pairTo4 (hI : zIoK I) (h : zTT I σ μ) {v w : Int32} (e : w = v) : zp2 (fX5_putPairAt σ 4 v) (fX12_pairTo μ 4 w) (fun r r' => zTT I r r' ∧ zQ [] [(36, 4, 4), (36, 5, 5)] [] [] σ r ∧ zQ [] [(3, 4, 4), (3, 5, 5)] [] [] μ r') := by
  subst e
  unfold fX5_putPairAt fX12_pairTo
  refine zp2_ckl (zp2_bvl (fun s1 f1 => zp2_ckl (zp2_bvl (fun s2 f2 => zp2_ckr (zp2_bvr (fun t1 g1 => zp2_ckr (zp2_bvr (fun t2 g2 => zp2_some ?_))))))))
  subst f2
  subst f1
  subst g2
  subst g1
  exact ⟨h.upd hI [4, 5] (zQ.wi (zQ.wi zQ.rf rfl) rfl) (zQ.wi (zQ.wi zQ.rf rfl) rfl) rfl (zAl2 ⟨rfl, zrg_b (Or.inl (by decide)) (z_r8 _)⟩ ⟨rfl, zrg_b (Or.inl (by decide)) (z_r8 _)⟩), zQ.wi (zQ.wi zQ.rf rfl) rfl, zQ.wi (zQ.wi zQ.rf rfl) rfl⟩
theorem t_pair6 (h : zTT I σ μ) : zp2 (fX5_pairAt σ 6) (fX12_pair μ 6) (fun r r' => r.1 = σ ∧ r'.1 = μ ∧ r'.2 = r.2 ∧ zr 0 65535 r.2) := by
  unfold fX5_pairAt fX12_pair
  refine zp2_ckl (zp2_ckl (zp2_ckr (zp2_ckr (zp2_some ⟨rfl, rfl, ?_, z_rw' (h.b (j := 6) (by decide)) (h.b (j := 7) (by decide))⟩))))
  show (μ.1 3 6 <<< ((8 : Int32) &&& 31)) ||| μ.1 3 7 = (σ.1 36 6 <<< ((8 : Int32) &&& 31)) ||| σ.1 36 7
  rw [h.eq (by decide), h.eq (by decide)]
theorem t_pairTo6 (hI : zIoK I) (h : zTT I σ μ) {v w : Int32} (e : w = v) : zp2 (fX5_putPairAt σ 6 v) (fX12_pairTo μ 6 w) (fun r r' => zTT I r r' ∧ zQ [] [(36, 6, 6), (36, 7, 7)] [] [] σ r ∧ zQ [] [(3, 6, 6), (3, 7, 7)] [] [] μ r') := by
  subst e
  unfold fX5_putPairAt fX12_pairTo
  refine zp2_ckl (zp2_bvl (fun s1 f1 => zp2_ckl (zp2_bvl (fun s2 f2 => zp2_ckr (zp2_bvr (fun t1 g1 => zp2_ckr (zp2_bvr (fun t2 g2 => zp2_some ?_))))))))
  subst f2
  subst f1
  subst g2
  subst g1
  exact ⟨h.upd hI [6, 7] (zQ.wi (zQ.wi zQ.rf rfl) rfl) (zQ.wi (zQ.wi zQ.rf rfl) rfl) rfl (zAl2 ⟨rfl, zrg_b (Or.inl (by decide)) (z_r8 _)⟩ ⟨rfl, zrg_b (Or.inl (by decide)) (z_r8 _)⟩), zQ.wi (zQ.wi zQ.rf rfl) rfl, zQ.wi (zQ.wi zQ.rf rfl) rfl⟩
theorem t_hl (h : zTT I σ μ) : zp2 (fX5_hl σ ) (fX12_hl μ ) (fun r r' => r.1 = σ ∧ r'.1 = μ ∧ r'.2 = r.2 ∧ zr 0 65535 r.2) := by
  unfold fX5_hl fX12_hl fX5_hl_27 fX12_hl_25
  rcases h.2.2.1 with ⟨a, b⟩ | ⟨a, b⟩ | ⟨a, b⟩
  · exact zp2_ifl (fun _ => zp2_ifr (fun _ => zp2_bii (t_pair6 h) (fun s v t w q => zp2_some q)) (fun q => absurd b q)) (fun q => absurd a q)
  · refine zp2_ifl (fun q => absurd (a.symm.trans q) (by decide)) (fun _ => zp2_ifr (fun q => absurd (b.symm.trans q) (by decide)) (fun _ => ?_))
    rw [show zgi σ 7 4 = 16 from a, show zgi μ 0 31 = 16 from b]
    exact zp2_ckl (zp2_ckr (zp2_some ⟨rfl, rfl, h.eq (j := 16) (by decide), h.w (j := 16) (by decide) (by decide)⟩))
  · refine zp2_ifl (fun q => absurd (a.symm.trans q) (by decide)) (fun _ => zp2_ifr (fun q => absurd (b.symm.trans q) (by decide)) (fun _ => ?_))
    rw [show zgi σ 7 4 = 17 from a, show zgi μ 0 31 = 17 from b]
    exact zp2_ckl (zp2_ckr (zp2_some ⟨rfl, rfl, h.eq (j := 17) (by decide), h.w (j := 17) (by decide) (by decide)⟩))
theorem t_hlTo (hI : zIoK I) (h : zTT I σ μ) {v w : Int32} (e : w = v) : zp2 (fX5_putHl σ v) (fX12_hlTo μ w) (fun r r' => zTT I r r' ∧ zQ [] [(36, 6, 7), (36, 16, 17)] [] [] σ r ∧ zQ [] [(3, 6, 7), (3, 16, 17)] [] [] μ r') := by
  unfold fX5_putHl fX12_hlTo fX5_putHl_32 fX12_hlTo_30
  rcases h.2.2.1 with ⟨a, b⟩ | ⟨a, b⟩ | ⟨a, b⟩
  · exact zp2_ifl (fun _ => zp2_ifr (fun _ => zp2_buu (t_pairTo6 hI h e) (fun s t q => zp2_some ⟨q.1, q.2.1.mono rfl rfl, q.2.2.mono rfl rfl⟩)) (fun q => absurd b q)) (fun q => absurd a q)
  · refine zp2_ifl (fun q => absurd (a.symm.trans q) (by decide)) (fun _ => zp2_ifr (fun q => absurd (b.symm.trans q) (by decide)) (fun _ => ?_))
    rw [show zgi σ 7 4 = 16 from a, show zgi μ 0 31 = 16 from b]
    refine zp2_ckl (zp2_bvl (fun s f => zp2_ckr (zp2_bvr (fun t g => zp2_some ?_))))
    subst f
    subst g
    subst e
    exact ⟨h.upd hI [16] (zQ.wi zQ.rf rfl) (zQ.wi zQ.rf rfl) rfl (zAl1 ⟨rfl, zrg_w (by decide) (by decide) (z_r16 _)⟩), zQ.wi zQ.rf rfl, zQ.wi zQ.rf rfl⟩
  · refine zp2_ifl (fun q => absurd (a.symm.trans q) (by decide)) (fun _ => zp2_ifr (fun q => absurd (b.symm.trans q) (by decide)) (fun _ => ?_))
    rw [show zgi σ 7 4 = 17 from a, show zgi μ 0 31 = 17 from b]
    refine zp2_ckl (zp2_bvl (fun s f => zp2_ckr (zp2_bvr (fun t g => zp2_some ?_))))
    subst f
    subst g
    subst e
    exact ⟨h.upd hI [17] (zQ.wi zQ.rf rfl) (zQ.wi zQ.rf rfl) rfl (zAl1 ⟨rfl, zrg_w (by decide) (by decide) (z_r16 _)⟩), zQ.wi zQ.rf rfl, zQ.wi zQ.rf rfl⟩
theorem t_rp (h : zTT I σ μ) {p : Int32} (hp : zr 0 3 p) : zp2 (fX5_pair σ p) (fX12_rp μ p) (fun r r' => r.1 = σ ∧ r'.1 = μ ∧ r'.2 = r.2 ∧ zr 0 65535 r.2) := by
  unfold fX5_pair fX12_rp fX12_rp_44
  refine zp2_if (fun _ => zp2_bii (t_pair2 h) (fun s v t w q => zp2_some q)) (fun _ => zp2_if (fun _ => zp2_bii (t_pair4 h) (fun s v t w q => zp2_some q)) (fun _ => zp2_if (fun _ => zp2_bii (t_hl h) (fun s v t w q => zp2_some q)) (fun _ => ?_)))
  exact zp2_ckl (zp2_ckr (zp2_some ⟨rfl, rfl, h.eq (j := 18) (by decide), h.w (j := 18) (by decide) (by decide)⟩))
theorem t_rpTo (hI : zIoK I) (h : zTT I σ μ) {p v w : Int32} (e : w = v) : zp2 (fX5_putPair σ p v) (fX12_rpTo μ p w) (fun r r' => zTT I r r' ∧ zQ [] [(36, 2, 7), (36, 16, 18)] [] [] σ r ∧ zQ [] [(3, 2, 7), (3, 16, 18)] [] [] μ r') := by
  unfold fX5_putPair fX12_rpTo fX5_putPair_65 fX12_rpTo_51
  refine zp2_if (fun _ => zp2_buu (t_pairTo2 hI h e) (fun s t q => zp2_some ⟨q.1, q.2.1.mono rfl rfl, q.2.2.mono rfl rfl⟩)) (fun _ => zp2_if (fun _ => zp2_buu (t_pairTo4 hI h e) (fun s t q => zp2_some ⟨q.1, q.2.1.mono rfl rfl, q.2.2.mono rfl rfl⟩)) (fun _ => zp2_if (fun _ => zp2_buu (t_hlTo hI h e) (fun s t q => zp2_some ⟨q.1, q.2.1.mono rfl rfl, q.2.2.mono rfl rfl⟩)) (fun _ => ?_)))
  refine zp2_ckl (zp2_bvl (fun s f => zp2_ckr (zp2_bvr (fun t g => zp2_some ?_))))
  subst f
  subst g
  subst e
  exact ⟨h.upd hI [18] (zQ.wi zQ.rf rfl) (zQ.wi zQ.rf rfl) rfl (zAl1 ⟨rfl, zrg_w (by decide) (by decide) (z_r16 _)⟩), zQ.wi zQ.rf rfl, zQ.wi zQ.rf rfl⟩
theorem p_m (h : zTT I σ μ) (hp : zPlc σ μ) : zpc (fX12_m μ ) (fun r => r = (μ, σ.1 7 5)) := by
  unfold fX12_m fX12_m_23
  rcases hp with ⟨a, b⟩ | ⟨a, b⟩
  · refine zpc_if (fun _ => zpc_bi (P := fun r => r = (μ, σ.1 7 5)) ?_ (fun s v e => zpc_some e)) (fun q => absurd a q)
    unfold fX12_pair
    refine zpc_ck (zpc_ck (zpc_some ?_))
    show (μ, (μ.1 3 6 <<< ((8 : Int32) &&& 31)) ||| μ.1 3 7) = _
    rw [b, h.eq (by decide), h.eq (by decide)]
  · refine zpc_if (fun q => absurd q a) (fun _ => zpc_ck (zpc_some ?_))
    show (μ, μ.1 3 20) = _
    rw [b]
theorem zr_hd {x c : Int32} {a b : Int} (h : zr a b x) (hc : c.toInt = a) : x = c ∨ zr (a + 1) b x := by
  by_cases q : x.toInt = a
  · exact Or.inl (Int32.toInt_inj.mp (by omega))
  · exact Or.inr ⟨by have := h.1; omega, h.2⟩
theorem zr_no9 {x : Int32} {a b : Int} {P : Prop} (h : zr a b x) (c : b < a) : P := by have := h.1; have := h.2; exfalso; omega
theorem z_shr8 {w : Int32} (h : zr 0 65535 w) : zr 0 255 (w >>> ((8 : Int32) &&& 31)) := z_hi h
theorem t_one (h : zTT I σ μ) (hp : zPlc σ μ) {k : Int32} (hk : zr 0 7 k) : zp2 (fX5_one σ k) (fX12_r μ k) (fun r r' => r.1 = σ ∧ r'.1 = μ ∧ r'.2 = r.2 ∧ zr 0 255 r.2) := by
  unfold fX5_one fX12_r fX5_one_63 fX5_one_96 fX12_r_73 fX12_r_74
  rcases zr_hd (c := 0) hk rfl with e | hk
  · subst e
    refine zp2_ifl (fun q => absurd q (by decide)) (fun _ => zp2_ifl (fun q => absurd q (by decide)) (fun _ => zp2_ifl (fun q => absurd q (by decide)) (fun _ => zp2_ifl (fun q => absurd q (by decide)) (fun _ => zp2_ckl ?_))))
    exact zp2_ifr (fun q => absurd q (by decide)) (fun _ => zp2_ifr (fun q => absurd q (by decide)) (fun _ => zp2_ifr (fun _ => zp2_ckr (zp2_some ⟨rfl, rfl, h.eq (j := 2) (by decide), h.b (j := 2) (by decide)⟩)) (fun _ => zp2_ifr (fun _ => zp2_ckr (zp2_some ⟨rfl, rfl, h.eq (j := 2) (by decide), h.b (j := 2) (by decide)⟩)) (fun q => absurd (by decide) q))))
  rcases zr_hd (c := 1) hk rfl with e | hk
  · subst e
    refine zp2_ifl (fun q => absurd q (by decide)) (fun _ => zp2_ifl (fun q => absurd q (by decide)) (fun _ => zp2_ifl (fun q => absurd q (by decide)) (fun _ => zp2_ifl (fun q => absurd q (by decide)) (fun _ => zp2_ckl ?_))))
    exact zp2_ifr (fun q => absurd q (by decide)) (fun _ => zp2_ifr (fun q => absurd q (by decide)) (fun _ => zp2_ifr (fun _ => zp2_ckr (zp2_some ⟨rfl, rfl, h.eq (j := 3) (by decide), h.b (j := 3) (by decide)⟩)) (fun _ => zp2_ifr (fun _ => zp2_ckr (zp2_some ⟨rfl, rfl, h.eq (j := 3) (by decide), h.b (j := 3) (by decide)⟩)) (fun q => absurd (by decide) q))))
  rcases zr_hd (c := 2) hk rfl with e | hk
  · subst e
    refine zp2_ifl (fun q => absurd q (by decide)) (fun _ => zp2_ifl (fun q => absurd q (by decide)) (fun _ => zp2_ifl (fun q => absurd q (by decide)) (fun _ => zp2_ifl (fun q => absurd q (by decide)) (fun _ => zp2_ckl ?_))))
    exact zp2_ifr (fun q => absurd q (by decide)) (fun _ => zp2_ifr (fun q => absurd q (by decide)) (fun _ => zp2_ifr (fun _ => zp2_ckr (zp2_some ⟨rfl, rfl, h.eq (j := 4) (by decide), h.b (j := 4) (by decide)⟩)) (fun _ => zp2_ifr (fun _ => zp2_ckr (zp2_some ⟨rfl, rfl, h.eq (j := 4) (by decide), h.b (j := 4) (by decide)⟩)) (fun q => absurd (by decide) q))))
  rcases zr_hd (c := 3) hk rfl with e | hk
  · subst e
    refine zp2_ifl (fun q => absurd q (by decide)) (fun _ => zp2_ifl (fun q => absurd q (by decide)) (fun _ => zp2_ifl (fun q => absurd q (by decide)) (fun _ => zp2_ifl (fun q => absurd q (by decide)) (fun _ => zp2_ckl ?_))))
    exact zp2_ifr (fun q => absurd q (by decide)) (fun _ => zp2_ifr (fun q => absurd q (by decide)) (fun _ => zp2_ifr (fun _ => zp2_ckr (zp2_some ⟨rfl, rfl, h.eq (j := 5) (by decide), h.b (j := 5) (by decide)⟩)) (fun _ => zp2_ifr (fun _ => zp2_ckr (zp2_some ⟨rfl, rfl, h.eq (j := 5) (by decide), h.b (j := 5) (by decide)⟩)) (fun q => absurd (by decide) q))))
  rcases zr_hd (c := 4) hk rfl with e | hk
  · subst e
    rcases h.2.2.1 with ⟨a, b⟩ | ⟨a, b⟩ | ⟨a, b⟩
    · refine zp2_ifl (fun _ => zp2_ifl (fun _ => zp2_ckl ?_) (fun q => absurd a q)) (fun q => absurd rfl q)
      rw [show zgi μ 0 31 = 0 from b]
      exact zp2_ifr (fun q => absurd q (by decide)) (fun _ => zp2_ifr (fun q => absurd q (by decide)) (fun _ => zp2_ifr (fun _ => zp2_ckr (zp2_some ⟨rfl, rfl, h.eq (j := 6) (by decide), h.b (j := 6) (by decide)⟩)) (fun q => absurd (by decide) q)))
    · refine zp2_ifl (fun _ => zp2_ifl (fun q => absurd (a.symm.trans q) (by decide)) (fun _ => zp2_ckl ?_)) (fun q => absurd rfl q)
      rw [show zgi σ 7 4 = 16 from a, show zgi μ 0 31 = 16 from b]
      refine zp2_ifr (fun q => absurd q (by decide)) (fun _ => zp2_ifr (fun q => absurd q (by decide)) (fun _ => zp2_ifr (fun q => absurd q (by decide)) (fun _ => zp2_ifr (fun q => absurd q (by decide)) (fun _ => zp2_ifr (fun _ => zp2_ckr (zp2_some ⟨rfl, rfl, ?_, z_shr8 (h.w (j := 16) (by decide) (by decide))⟩)) (fun q => absurd rfl q)))))
      show μ.1 3 16 >>> ((8 : Int32) &&& 31) = σ.1 36 16 >>> ((8 : Int32) &&& 31)
      rw [h.eq (by decide)]
    · refine zp2_ifl (fun _ => zp2_ifl (fun q => absurd (a.symm.trans q) (by decide)) (fun _ => zp2_ckl ?_)) (fun q => absurd rfl q)
      rw [show zgi σ 7 4 = 17 from a, show zgi μ 0 31 = 17 from b]
      refine zp2_ifr (fun q => absurd q (by decide)) (fun _ => zp2_ifr (fun q => absurd q (by decide)) (fun _ => zp2_ifr (fun q => absurd q (by decide)) (fun _ => zp2_ifr (fun q => absurd q (by decide)) (fun _ => zp2_ifr (fun _ => zp2_ckr (zp2_some ⟨rfl, rfl, ?_, z_shr8 (h.w (j := 17) (by decide) (by decide))⟩)) (fun q => absurd rfl q)))))
      show μ.1 3 17 >>> ((8 : Int32) &&& 31) = σ.1 36 17 >>> ((8 : Int32) &&& 31)
      rw [h.eq (by decide)]
  rcases zr_hd (c := 5) hk rfl with e | hk
  · subst e
    rcases h.2.2.1 with ⟨a, b⟩ | ⟨a, b⟩ | ⟨a, b⟩
    · refine zp2_ifl (fun q => absurd q (by decide)) (fun _ => zp2_ifl (fun _ => zp2_ifl (fun _ => zp2_ckl ?_) (fun q => absurd a q)) (fun q => absurd rfl q))
      rw [show zgi μ 0 31 = 0 from b]
      exact zp2_ifr (fun q => absurd q (by decide)) (fun _ => zp2_ifr (fun q => absurd q (by decide)) (fun _ => zp2_ifr (fun _ => zp2_ckr (zp2_some ⟨rfl, rfl, h.eq (j := 7) (by decide), h.b (j := 7) (by decide)⟩)) (fun q => absurd (by decide) q)))
    · refine zp2_ifl (fun q => absurd q (by decide)) (fun _ => zp2_ifl (fun _ => zp2_ifl (fun q => absurd (a.symm.trans q) (by decide)) (fun _ => zp2_ckl ?_)) (fun q => absurd rfl q))
      rw [show zgi σ 7 4 = 16 from a, show zgi μ 0 31 = 16 from b]
      refine zp2_ifr (fun q => absurd q (by decide)) (fun _ => zp2_ifr (fun q => absurd q (by decide)) (fun _ => zp2_ifr (fun q => absurd q (by decide)) (fun _ => zp2_ifr (fun q => absurd q (by decide)) (fun _ => zp2_ifr (fun q => absurd q (by decide)) (fun _ => zp2_ckr (zp2_some ⟨rfl, rfl, ?_, z_r8 _⟩))))))
      show μ.1 3 16 &&& 255 = σ.1 36 16 &&& 255
      rw [h.eq (by decide)]
    · refine zp2_ifl (fun q => absurd q (by decide)) (fun _ => zp2_ifl (fun _ => zp2_ifl (fun q => absurd (a.symm.trans q) (by decide)) (fun _ => zp2_ckl ?_)) (fun q => absurd rfl q))
      rw [show zgi σ 7 4 = 17 from a, show zgi μ 0 31 = 17 from b]
      refine zp2_ifr (fun q => absurd q (by decide)) (fun _ => zp2_ifr (fun q => absurd q (by decide)) (fun _ => zp2_ifr (fun q => absurd q (by decide)) (fun _ => zp2_ifr (fun q => absurd q (by decide)) (fun _ => zp2_ifr (fun q => absurd q (by decide)) (fun _ => zp2_ckr (zp2_some ⟨rfl, rfl, ?_, z_r8 _⟩))))))
      show μ.1 3 17 &&& 255 = σ.1 36 17 &&& 255
      rw [h.eq (by decide)]
  rcases zr_hd (c := 6) hk rfl with e | hk
  · subst e
    refine zp2_ifl (fun q => absurd q (by decide)) (fun _ => zp2_ifl (fun q => absurd q (by decide)) (fun _ => zp2_ifl (fun _ => zp2_ifr (fun _ => ?_) (fun q => absurd rfl q)) (fun q => absurd rfl q)))
    refine zp2_bir (p_m h hp) (fun t w et => ?_)
    cases et
    exact zp2_rd h.1 rfl (fun v hv => zp2_some ⟨rfl, rfl, rfl, hv⟩)
  rcases zr_hd (c := 7) hk rfl with e | hk
  · subst e
    refine zp2_ifl (fun q => absurd q (by decide)) (fun _ => zp2_ifl (fun q => absurd q (by decide)) (fun _ => zp2_ifl (fun q => absurd q (by decide)) (fun _ => zp2_ifl (fun _ => zp2_ckl ?_) (fun q => absurd rfl q))))
    exact zp2_ifr (fun q => absurd q (by decide)) (fun _ => zp2_ifr (fun _ => zp2_ckr (zp2_some ⟨rfl, rfl, h.eq (j := 0) (by decide), h.b (j := 0) (by decide)⟩)) (fun q => absurd rfl q))
  exact zr_no9 hk (by decide)
theorem t_putOne (hI : zIoK I) (h : zTT I σ μ) (hp : zPlc σ μ) {k v w : Int32} (hk : zr 0 7 k) (e : w &&& 255 = v) (hv : zr 0 255 v) : zp2 (fX5_putOne σ k v) (fX12_rTo μ k w) (fun r r' => zTT I r r' ∧ zQ [15, 17, 19] [(36, 0, 0), (36, 2, 7), (36, 16, 17)] [] [] σ r ∧ zQ [5, 6] [(3, 0, 0), (3, 2, 7), (3, 16, 17), (3, 29, 32)] [] [] μ r') := by
  unfold fX5_putOne fX12_rTo fX5_putOne_88 fX12_rTo_113 fX12_rTo_104 fX12_rTo_100 fX5_putPairHalf fX5_putPairHalf_68 fX5_putPairHalf_69
  refine zp2_bvr (fun y ey => ?_)
  have ey : y = v := ey.trans e
  subst ey
  rcases zr_hd (c := 0) hk rfl with e1 | hk
  · subst e1
    have fin : zp2 (zck (zin (2 + (0 &&& 3)) 29) (zbv (zsi σ 36 ((2 + (0 &&& 3) : Int32).toNatClampNeg) y) (fun σ5 => some σ5))) (zck (zin (2 + 0) 1048) (zbv (zsi μ 3 ((2 + 0 : Int32).toNatClampNeg) y) (fun σ1 => some σ1))) (fun r r' => zTT I r r' ∧ zQ [15, 17, 19] [(36, 0, 0), (36, 2, 7), (36, 16, 17)] [] [] σ r ∧ zQ [5, 6] [(3, 0, 0), (3, 2, 7), (3, 16, 17), (3, 29, 32)] [] [] μ r') := by
      refine zp2_ckl (zp2_bvl (fun s f => zp2_ckr (zp2_bvr (fun t g => zp2_some ?_))))
      subst f
      subst g
      exact ⟨h.upd hI [2] (zQ.wi zQ.rf rfl) (zQ.wi zQ.rf rfl) rfl (zAl1 ⟨rfl, zrg_b (Or.inl (by decide)) hv⟩), zQ.wi zQ.rf rfl, zQ.wi zQ.rf rfl⟩
    exact zp2_ifl (fun q => absurd q (by decide)) (fun _ => zp2_ifl (fun q => absurd q (by decide)) (fun _ => zp2_ifl (fun q => absurd q (by decide)) (fun _ => zp2_ifl (fun q => absurd q (by decide)) (fun _ => zp2_ifr (fun q => absurd q (by decide)) (fun _ => zp2_ifr (fun q => absurd q (by decide)) (fun _ => zp2_ifr (fun _ => fin) (fun _ => zp2_ifr (fun _ => fin) (fun q => absurd (by decide) q))))))))
  rcases zr_hd (c := 1) hk rfl with e1 | hk
  · subst e1
    have fin : zp2 (zck (zin (2 + (1 &&& 3)) 29) (zbv (zsi σ 36 ((2 + (1 &&& 3) : Int32).toNatClampNeg) y) (fun σ5 => some σ5))) (zck (zin (2 + 1) 1048) (zbv (zsi μ 3 ((2 + 1 : Int32).toNatClampNeg) y) (fun σ1 => some σ1))) (fun r r' => zTT I r r' ∧ zQ [15, 17, 19] [(36, 0, 0), (36, 2, 7), (36, 16, 17)] [] [] σ r ∧ zQ [5, 6] [(3, 0, 0), (3, 2, 7), (3, 16, 17), (3, 29, 32)] [] [] μ r') := by
      refine zp2_ckl (zp2_bvl (fun s f => zp2_ckr (zp2_bvr (fun t g => zp2_some ?_))))
      subst f
      subst g
      exact ⟨h.upd hI [3] (zQ.wi zQ.rf rfl) (zQ.wi zQ.rf rfl) rfl (zAl1 ⟨rfl, zrg_b (Or.inl (by decide)) hv⟩), zQ.wi zQ.rf rfl, zQ.wi zQ.rf rfl⟩
    exact zp2_ifl (fun q => absurd q (by decide)) (fun _ => zp2_ifl (fun q => absurd q (by decide)) (fun _ => zp2_ifl (fun q => absurd q (by decide)) (fun _ => zp2_ifl (fun q => absurd q (by decide)) (fun _ => zp2_ifr (fun q => absurd q (by decide)) (fun _ => zp2_ifr (fun q => absurd q (by decide)) (fun _ => zp2_ifr (fun _ => fin) (fun _ => zp2_ifr (fun _ => fin) (fun q => absurd (by decide) q))))))))
  rcases zr_hd (c := 2) hk rfl with e1 | hk
  · subst e1
    have fin : zp2 (zck (zin (2 + (2 &&& 3)) 29) (zbv (zsi σ 36 ((2 + (2 &&& 3) : Int32).toNatClampNeg) y) (fun σ5 => some σ5))) (zck (zin (2 + 2) 1048) (zbv (zsi μ 3 ((2 + 2 : Int32).toNatClampNeg) y) (fun σ1 => some σ1))) (fun r r' => zTT I r r' ∧ zQ [15, 17, 19] [(36, 0, 0), (36, 2, 7), (36, 16, 17)] [] [] σ r ∧ zQ [5, 6] [(3, 0, 0), (3, 2, 7), (3, 16, 17), (3, 29, 32)] [] [] μ r') := by
      refine zp2_ckl (zp2_bvl (fun s f => zp2_ckr (zp2_bvr (fun t g => zp2_some ?_))))
      subst f
      subst g
      exact ⟨h.upd hI [4] (zQ.wi zQ.rf rfl) (zQ.wi zQ.rf rfl) rfl (zAl1 ⟨rfl, zrg_b (Or.inl (by decide)) hv⟩), zQ.wi zQ.rf rfl, zQ.wi zQ.rf rfl⟩
    exact zp2_ifl (fun q => absurd q (by decide)) (fun _ => zp2_ifl (fun q => absurd q (by decide)) (fun _ => zp2_ifl (fun q => absurd q (by decide)) (fun _ => zp2_ifl (fun q => absurd q (by decide)) (fun _ => zp2_ifr (fun q => absurd q (by decide)) (fun _ => zp2_ifr (fun q => absurd q (by decide)) (fun _ => zp2_ifr (fun _ => fin) (fun _ => zp2_ifr (fun _ => fin) (fun q => absurd (by decide) q))))))))
  rcases zr_hd (c := 3) hk rfl with e1 | hk
  · subst e1
    have fin : zp2 (zck (zin (2 + (3 &&& 3)) 29) (zbv (zsi σ 36 ((2 + (3 &&& 3) : Int32).toNatClampNeg) y) (fun σ5 => some σ5))) (zck (zin (2 + 3) 1048) (zbv (zsi μ 3 ((2 + 3 : Int32).toNatClampNeg) y) (fun σ1 => some σ1))) (fun r r' => zTT I r r' ∧ zQ [15, 17, 19] [(36, 0, 0), (36, 2, 7), (36, 16, 17)] [] [] σ r ∧ zQ [5, 6] [(3, 0, 0), (3, 2, 7), (3, 16, 17), (3, 29, 32)] [] [] μ r') := by
      refine zp2_ckl (zp2_bvl (fun s f => zp2_ckr (zp2_bvr (fun t g => zp2_some ?_))))
      subst f
      subst g
      exact ⟨h.upd hI [5] (zQ.wi zQ.rf rfl) (zQ.wi zQ.rf rfl) rfl (zAl1 ⟨rfl, zrg_b (Or.inl (by decide)) hv⟩), zQ.wi zQ.rf rfl, zQ.wi zQ.rf rfl⟩
    exact zp2_ifl (fun q => absurd q (by decide)) (fun _ => zp2_ifl (fun q => absurd q (by decide)) (fun _ => zp2_ifl (fun q => absurd q (by decide)) (fun _ => zp2_ifl (fun q => absurd q (by decide)) (fun _ => zp2_ifr (fun q => absurd q (by decide)) (fun _ => zp2_ifr (fun q => absurd q (by decide)) (fun _ => zp2_ifr (fun _ => fin) (fun _ => zp2_ifr (fun _ => fin) (fun q => absurd (by decide) q))))))))
  rcases zr_hd (c := 4) hk rfl with e1 | hk
  · subst e1
    rcases h.2.2.1 with ⟨a, b⟩ | ⟨a, b⟩ | ⟨a, b⟩
    · refine zp2_ifl (fun _ => ?_) (fun q => absurd rfl q)
      rw [show zgi μ 0 31 = 0 from b]
      refine zp2_ifr (fun q => absurd q (by decide)) (fun _ => zp2_ifr (fun q => absurd q (by decide)) (fun _ => zp2_ifr (fun _ => ?_) (fun q => absurd (by decide) q)))
      refine zp2_bul (P := fun r => r = zsi σ 36 6 y) (zpc_if (fun _ => zpc_ck (zpc_bv (fun s f => zpc_some f))) (fun q => absurd a q)) (fun s f => zp2_ckr (zp2_bvr (fun t g => zp2_some ?_)))
      subst f
      subst g
      exact ⟨h.upd hI [6] (zQ.wi zQ.rf rfl) (zQ.wi zQ.rf rfl) rfl (zAl1 ⟨rfl, zrg_b (Or.inl (by decide)) hv⟩), zQ.wi zQ.rf rfl, zQ.wi zQ.rf rfl⟩
    · refine zp2_ifl (fun _ => ?_) (fun q => absurd rfl q)
      refine zp2_bul (P := fun r => r = zsi σ 36 16 ((y <<< ((8 : Int32) &&& 31)) ||| (σ.1 36 16 &&& 255))) ?_ (fun s f => ?_)
      · refine zpc_if (fun q => absurd (a.symm.trans q) (by decide)) (fun _ => zpc_if (fun _ => zpc_ck ?_) (fun q => absurd rfl q))
        rw [show zgi σ 7 4 = 16 from a]
        exact zpc_ck (zpc_bv (fun s f => zpc_some f))
      rw [show zgi μ 0 31 = 16 from b]
      refine zp2_ifr (fun q => absurd q (by decide)) (fun _ => zp2_ifr (fun q => absurd q (by decide)) (fun _ => zp2_ifr (fun q => absurd q (by decide)) (fun _ => zp2_ifr (fun q => absurd q (by decide)) (fun _ => zp2_ifr (fun _ => zp2_ckr ?_) (fun q => absurd rfl q)))))
      refine zp2_ckr (zp2_bvr (fun t g => zp2_some ?_))
      subst f
      subst g
      refine ⟨h.upd hI [16] (zQ.wi zQ.rf rfl) (zQ.wi zQ.rf rfl) rfl (zAl1 ⟨?_, zrg_w (by decide) (by decide) (z_rw' hv (z_r8 _))⟩), zQ.wi zQ.rf rfl, zQ.wi zQ.rf rfl⟩
      show (y <<< ((8 : Int32) &&& 31)) ||| (μ.1 3 16 &&& 255) = (y <<< ((8 : Int32) &&& 31)) ||| (σ.1 36 16 &&& 255)
      rw [h.eq (by decide)]
    · refine zp2_ifl (fun _ => ?_) (fun q => absurd rfl q)
      refine zp2_bul (P := fun r => r = zsi σ 36 17 ((y <<< ((8 : Int32) &&& 31)) ||| (σ.1 36 17 &&& 255))) ?_ (fun s f => ?_)
      · refine zpc_if (fun q => absurd (a.symm.trans q) (by decide)) (fun _ => zpc_if (fun _ => zpc_ck ?_) (fun q => absurd rfl q))
        rw [show zgi σ 7 4 = 17 from a]
        exact zpc_ck (zpc_bv (fun s f => zpc_some f))
      rw [show zgi μ 0 31 = 17 from b]
      refine zp2_ifr (fun q => absurd q (by decide)) (fun _ => zp2_ifr (fun q => absurd q (by decide)) (fun _ => zp2_ifr (fun q => absurd q (by decide)) (fun _ => zp2_ifr (fun q => absurd q (by decide)) (fun _ => zp2_ifr (fun _ => zp2_ckr ?_) (fun q => absurd rfl q)))))
      refine zp2_ckr (zp2_bvr (fun t g => zp2_some ?_))
      subst f
      subst g
      refine ⟨h.upd hI [17] (zQ.wi zQ.rf rfl) (zQ.wi zQ.rf rfl) rfl (zAl1 ⟨?_, zrg_w (by decide) (by decide) (z_rw' hv (z_r8 _))⟩), zQ.wi zQ.rf rfl, zQ.wi zQ.rf rfl⟩
      show (y <<< ((8 : Int32) &&& 31)) ||| (μ.1 3 17 &&& 255) = (y <<< ((8 : Int32) &&& 31)) ||| (σ.1 36 17 &&& 255)
      rw [h.eq (by decide)]
  rcases zr_hd (c := 5) hk rfl with e1 | hk
  · subst e1
    rcases h.2.2.1 with ⟨a, b⟩ | ⟨a, b⟩ | ⟨a, b⟩
    · refine zp2_ifl (fun q => absurd q (by decide)) (fun _ => zp2_ifl (fun _ => ?_) (fun q => absurd rfl q))
      rw [show zgi μ 0 31 = 0 from b]
      refine zp2_ifr (fun q => absurd q (by decide)) (fun _ => zp2_ifr (fun q => absurd q (by decide)) (fun _ => zp2_ifr (fun _ => ?_) (fun q => absurd (by decide) q)))
      refine zp2_bul (P := fun r => r = zsi σ 36 7 y) (zpc_if (fun _ => zpc_ck (zpc_bv (fun s f => zpc_some f))) (fun q => absurd a q)) (fun s f => zp2_ckr (zp2_bvr (fun t g => zp2_some ?_)))
      subst f
      subst g
      exact ⟨h.upd hI [7] (zQ.wi zQ.rf rfl) (zQ.wi zQ.rf rfl) rfl (zAl1 ⟨rfl, zrg_b (Or.inl (by decide)) hv⟩), zQ.wi zQ.rf rfl, zQ.wi zQ.rf rfl⟩
    · refine zp2_ifl (fun q => absurd q (by decide)) (fun _ => zp2_ifl (fun _ => ?_) (fun q => absurd rfl q))
      refine zp2_bul (P := fun r => r = zsi σ 36 16 ((σ.1 36 16 &&& 65280) ||| y)) ?_ (fun s f => ?_)
      · refine zpc_if (fun q => absurd (a.symm.trans q) (by decide)) (fun _ => zpc_if (fun q => absurd q (by decide)) (fun _ => zpc_ck ?_))
        rw [show zgi σ 7 4 = 16 from a]
        exact zpc_ck (zpc_bv (fun s f => zpc_some f))
      rw [show zgi μ 0 31 = 16 from b]
      refine zp2_ifr (fun q => absurd q (by decide)) (fun _ => zp2_ifr (fun q => absurd q (by decide)) (fun _ => zp2_ifr (fun q => absurd q (by decide)) (fun _ => zp2_ifr (fun q => absurd q (by decide)) (fun _ => zp2_ifr (fun q => absurd q (by decide)) (fun _ => zp2_ckr ?_)))))
      refine zp2_ckr (zp2_bvr (fun t g => zp2_some ?_))
      subst f
      subst g
      refine ⟨h.upd hI [16] (zQ.wi zQ.rf rfl) (zQ.wi zQ.rf rfl) rfl (zAl1 ⟨?_, zrg_w (by decide) (by decide) (zr_or (lo := 0) (hi := 65535) 16 (zr_andr (lo := 0) (hi := 65280) (zr_c (lo := 65280) (hi := 65280) (by decide)) (by decide)) hv (by decide))⟩), zQ.wi zQ.rf rfl, zQ.wi zQ.rf rfl⟩
      show (μ.1 3 16 &&& 65280) ||| y = (σ.1 36 16 &&& 65280) ||| y
      rw [h.eq (by decide)]
    · refine zp2_ifl (fun q => absurd q (by decide)) (fun _ => zp2_ifl (fun _ => ?_) (fun q => absurd rfl q))
      refine zp2_bul (P := fun r => r = zsi σ 36 17 ((σ.1 36 17 &&& 65280) ||| y)) ?_ (fun s f => ?_)
      · refine zpc_if (fun q => absurd (a.symm.trans q) (by decide)) (fun _ => zpc_if (fun q => absurd q (by decide)) (fun _ => zpc_ck ?_))
        rw [show zgi σ 7 4 = 17 from a]
        exact zpc_ck (zpc_bv (fun s f => zpc_some f))
      rw [show zgi μ 0 31 = 17 from b]
      refine zp2_ifr (fun q => absurd q (by decide)) (fun _ => zp2_ifr (fun q => absurd q (by decide)) (fun _ => zp2_ifr (fun q => absurd q (by decide)) (fun _ => zp2_ifr (fun q => absurd q (by decide)) (fun _ => zp2_ifr (fun q => absurd q (by decide)) (fun _ => zp2_ckr ?_)))))
      refine zp2_ckr (zp2_bvr (fun t g => zp2_some ?_))
      subst f
      subst g
      refine ⟨h.upd hI [17] (zQ.wi zQ.rf rfl) (zQ.wi zQ.rf rfl) rfl (zAl1 ⟨?_, zrg_w (by decide) (by decide) (zr_or (lo := 0) (hi := 65535) 16 (zr_andr (lo := 0) (hi := 65280) (zr_c (lo := 65280) (hi := 65280) (by decide)) (by decide)) hv (by decide))⟩), zQ.wi zQ.rf rfl, zQ.wi zQ.rf rfl⟩
      show (μ.1 3 17 &&& 65280) ||| y = (σ.1 36 17 &&& 65280) ||| y
      rw [h.eq (by decide)]
  rcases zr_hd (c := 6) hk rfl with e1 | hk
  · subst e1
    refine zp2_ifl (fun q => absurd q (by decide)) (fun _ => zp2_ifl (fun q => absurd q (by decide)) (fun _ => zp2_ifl (fun _ => zp2_ifr (fun _ => ?_) (fun q => absurd rfl q)) (fun q => absurd rfl q)))
    refine zp2_bir (p_m h hp) (fun t w et => ?_)
    cases et
    refine zp2_wr h.1 rfl (z_m255 hv) hv (fun s t hm q1 q2 => zp2_some ⟨h.fin hI [] hm (q1.mono rfl rfl) (q2.mono rfl rfl) rfl zAl0 (h.2.2.1.of (q1.1 7 4 rfl) (q2.1 0 31 rfl)), q1.mono rfl rfl, q2.mono rfl rfl⟩)
  rcases zr_hd (c := 7) hk rfl with e1 | hk
  · subst e1
    refine zp2_ifl (fun q => absurd q (by decide)) (fun _ => zp2_ifl (fun q => absurd q (by decide)) (fun _ => zp2_ifl (fun q => absurd q (by decide)) (fun _ => zp2_ifl (fun _ => zp2_ckl ?_) (fun q => absurd rfl q))))
    refine zp2_ifr (fun q => absurd q (by decide)) (fun _ => zp2_ifr (fun _ => zp2_ckr ?_) (fun q => absurd rfl q))
    refine zp2_bvl (fun s f => zp2_bvr (fun t g => zp2_some ?_))
    subst f
    subst g
    exact ⟨h.upd hI [0] (zQ.wi zQ.rf rfl) (zQ.wi zQ.rf rfl) rfl (zAl1 ⟨rfl, zrg_b (Or.inl (by decide)) hv⟩), zQ.wi zQ.rf rfl, zQ.wi zQ.rf rfl⟩
  exact zr_no9 hk (by decide)
end ZT4
end ZJN24
section ZJN25
/-! ARITHMETIC -/
noncomputable def bc (v : Int32) : Bool := decide (¬ v = 0)
noncomputable def d7 (x : Int32) : Bool := bc (if x &&& 128 = 0 then 0 else 1)
noncomputable def d6 (x : Int32) : Bool := bc (if x = 0 then 1 else 0)
noncomputable def d5 (x : Int32) : Bool := bc (if x &&& 32 = 0 then 0 else 1)
noncomputable def d3 (x : Int32) : Bool := bc (if x &&& 8 = 0 then 0 else 1)
theorem fl_xy {b7 b6 b5 b4 b3 b2 b1 b0 : Bool} {x : Int32} : gxy (zfl b7 b6 b5 b4 b3 b2 b1 b0) x = zfl b7 b6 (d5 x) b4 (d3 x) b2 b1 b0 := by
  unfold gxy
  rw [pt_5, pt_3]
  rfl
theorem fl_by {b7 b6 b5 b4 b3 b2 b1 b0 : Bool} {x : Int32} : gby (zfl b7 b6 b5 b4 b3 b2 b1 b0) x = zfl (d7 x) (d6 x) (d5 x) b4 (d3 x) b2 b1 b0 := by
  unfold gby
  rw [pt_7, pt_6, fl_xy]
  rfl
theorem zfl_r : ∀ b7 b6 b5 b4 b3 b2 b1 b0 : Bool, zr 0 255 (zfl b7 b6 b5 b4 b3 b2 b1 b0) := by
  unfold zr
  decide
section ZFL2
variable {μ σ : zSt} {f b v x : Int32}
theorem p_put' : zpc (fX12_put μ b v) (fun r => r = zsi μ 3 1 (pt (μ.1 3 1) b v)) := by
  have h := p_put (μ := μ) (f := μ.1 3 1) (b := b) (v := v)
  rw [zsi_own] at h
  exact h
theorem p_xy' : zpc (fX12_xy μ x) (fun r => r = zsi μ 3 1 (gxy (μ.1 3 1) x)) := by
  have h := p_xy (μ := μ) (f := μ.1 3 1) (x := x)
  rw [zsi_own] at h
  exact h
theorem p_by' : zpc (fX12_by μ x) (fun r => r = zsi μ 3 1 (gby (μ.1 3 1) x)) := by
  have h := p_by (μ := μ) (f := μ.1 3 1) (x := x)
  rw [zsi_own] at h
  exact h
theorem zpc_j3 {α : Type} {c c2 : Prop} {d : Decidable c} {d2 : Decidable c2} {K : Int32 → Option α} {Q : α → Prop} (h : ∀ v, v = @ite _ c d 1 (@ite _ c2 d2 0 1) → zpc (K v) Q) : zpc (@ite _ c d (K 1) (@ite _ c2 d2 (K 0) (K 1))) Q := by
  by_cases q : c
  · rw [if_pos q]; exact h 1 (if_pos q).symm
  · rw [if_neg q]
    by_cases q2 : c2
    · rw [if_pos q2]; exact h 0 (by rw [if_neg q, if_pos q2])
    · rw [if_neg q2]; exact h 1 (by rw [if_neg q, if_neg q2])
/-! the reference: and, xor, or -/
theorem p_logM {y A : Int32} (hy : y = 4 ∨ ¬ y = 4) : zpc (fX12_does_48 μ y A 0) (fun r => r = zsi (zsi μ 3 0 A) 3 1 (pt (pt (pt (pt (gby (μ.1 3 1) A) 4 (if y = 4 then 1 else 0)) 2 (gev A)) 1 0) 0 0)) := by
  unfold fX12_does_48
  refine zpc_ck (zpc_bv (fun s es => zpc_ck (zpc_bu p_by' (fun t et => ?_))))
  have eA : zgi s 3 (0 : Int32).toNatClampNeg = A := by subst es; rfl
  have eF : s.1 3 1 = μ.1 3 1 := by subst es; rfl
  have es' : s = zsi μ 3 0 A := es
  rw [eA, eF] at et
  subst et
  refine zpc_j (K := fun v => fX12_does_71 (zsi s 3 1 (gby (μ.1 3 1) A)) v 4) (a := 1) (b := 0) (fun v ev => ?_)
  unfold fX12_does_71
  refine zpc_bu p_put (fun t et => ?_)
  subst et
  refine zpc_ck (zpc_bi p_even (fun t w et => ?_))
  cases et
  refine zpc_bu p_put (fun t et => ?_)
  subst et
  refine zpc_bu p_put (fun t et => ?_)
  subst et
  refine zpc_bu p_put (fun t et => zpc_some ?_)
  rw [et, ev]
  have g : zgi (zsi s 3 1 (pt (gby (μ.1 3 1) A) 4 (if y = 4 then 1 else 0))) 3 (0 : Int32).toNatClampNeg = A := eA
  rw [g, es']
end ZFL2
/-! the reference: sums and differences -/
noncomputable def hA (a b c : Int32) : Int32 := if ((a &&& 15) + (b &&& 15)) + c ≤ 15 then 0 else 1
noncomputable def hS (a b c : Int32) : Int32 := if 0 ≤ ((a &&& 15) - (b &&& 15)) - c then 0 else 1
noncomputable def cX (v : Int32) : Int32 := if v < 0 then 1 else if v ≤ 255 then 0 else 1
noncomputable def sg (v : Int32) : Int32 := if 128 ≤ v then v - 256 else v
noncomputable def oX (s : Int32) : Int32 := if s < (-128) then 1 else if s ≤ 127 then 0 else 1
noncomputable def mF (f h c w o n : Int32) : Int32 := pt (pt (gby (pt (pt f 4 h) 0 c) w) 2 o) 1 n
theorem fl_mF {f h c w o n : Int32} (hf : zr 0 255 f) : mF f h c w o n = zfl (d7 w) (d6 w) (d5 w) (bc h) (d3 w) (bc o) (bc n) (bc c) := by
  unfold mF
  rw [fl_of hf, pt_4, pt_0, fl_by, pt_2, pt_1]
  rfl
section ZAR
variable {μ σ : zSt} {a b c y : Int32}
theorem p_addM (h7 : ¬ y = 7) : zpc (fX12_does_154 μ y b a c 1 ((a + b) + c)) (fun r => r = zsi (zsi μ 3 1 (mF (μ.1 3 1) (hA a b c) (cX ((a + b) + c)) (((a + b) + c) &&& 255) (oX ((sg a + sg b) + c)) 0)) 3 0 (((a + b) + c) &&& 255)) := by
  unfold fX12_does_154
  refine zpc_if (fun q => absurd q (by decide)) (fun _ => ?_)
  refine zpc_j (K := fun h => fX12_does_208 μ y b a c 1 ((a + b) + c) h 4) (a := 0) (b := 1) (fun h eh => ?_)
  have eh : h = hA a b c := eh
  unfold fX12_does_208
  refine zpc_bu p_put' (fun t et => ?_)
  subst et
  unfold fX12_does_226
  refine zpc_j3 (K := fun w => fX12_does_231 (zsi μ 3 1 (pt (μ.1 3 1) 4 h)) y b a c 1 ((a + b) + c) w 0) (fun w ew => ?_)
  have ew : w = cX ((a + b) + c) := ew
  unfold fX12_does_231
  refine zpc_bu p_put (fun t et => ?_)
  subst et
  refine zpc_if (fun q => absurd q (by decide)) (fun _ => ?_)
  refine zpc_bi p_signed (fun t u et => ?_)
  cases et
  refine zpc_bi p_signed (fun t u et => ?_)
  cases et
  unfold fX12_does_266
  refine zpc_bu p_by (fun t et => ?_)
  subst et
  unfold fX12_does_294
  refine zpc_j3 (K := fun u => fX12_does_299 (zsi μ 3 1 (gby (pt (pt (μ.1 3 1) 4 h) 0 w) (((a + b) + c) &&& 255))) y b 1 ((a + b) + c) u 2) (fun u eu => ?_)
  have eu : u = oX ((sg a + sg b) + c) := eu
  unfold fX12_does_299
  refine zpc_bu p_put (fun t et => ?_)
  subst et
  refine zpc_if (fun q => absurd q (by decide)) (fun _ => ?_)
  unfold fX12_does_314 fX12_does_343
  refine zpc_bu p_put (fun t et => ?_)
  subst et
  refine zpc_if (fun q => absurd q h7) (fun _ => zpc_ck (zpc_bv (fun t et => zpc_some ?_)))
  rw [et, eh, ew, eu]
  rfl
theorem p_subM (h7 : ¬ y = 7) : zpc (fX12_does_154 μ y b a c 0 ((a - b) - c)) (fun r => r = zsi (zsi μ 3 1 (mF (μ.1 3 1) (hS a b c) (cX ((a - b) - c)) (((a - b) - c) &&& 255) (oX ((sg a - sg b) - c)) 1)) 3 0 (((a - b) - c) &&& 255)) := by
  unfold fX12_does_154
  refine zpc_if (fun _ => ?_) (fun q => absurd rfl q)
  refine zpc_j (K := fun h => fX12_does_208 μ y b a c 0 ((a - b) - c) h 4) (a := 0) (b := 1) (fun h eh => ?_)
  have eh : h = hS a b c := eh
  unfold fX12_does_208
  refine zpc_bu p_put' (fun t et => ?_)
  subst et
  unfold fX12_does_226
  refine zpc_j3 (K := fun w => fX12_does_231 (zsi μ 3 1 (pt (μ.1 3 1) 4 h)) y b a c 0 ((a - b) - c) w 0) (fun w ew => ?_)
  have ew : w = cX ((a - b) - c) := ew
  unfold fX12_does_231
  refine zpc_bu p_put (fun t et => ?_)
  subst et
  refine zpc_if (fun _ => ?_) (fun q => absurd rfl q)
  refine zpc_bi p_signed (fun t u et => ?_)
  cases et
  refine zpc_bi p_signed (fun t u et => ?_)
  cases et
  unfold fX12_does_266
  refine zpc_bu p_by (fun t et => ?_)
  subst et
  unfold fX12_does_294
  refine zpc_j3 (K := fun u => fX12_does_299 (zsi μ 3 1 (gby (pt (pt (μ.1 3 1) 4 h) 0 w) (((a - b) - c) &&& 255))) y b 0 ((a - b) - c) u 2) (fun u eu => ?_)
  have eu : u = oX ((sg a - sg b) - c) := eu
  unfold fX12_does_299
  refine zpc_bu p_put (fun t et => ?_)
  subst et
  refine zpc_if (fun _ => ?_) (fun q => absurd rfl q)
  unfold fX12_does_314 fX12_does_343
  refine zpc_bu p_put (fun t et => ?_)
  subst et
  refine zpc_if (fun q => absurd q h7) (fun _ => zpc_ck (zpc_bv (fun t et => zpc_some ?_)))
  rw [et, eh, ew, eu]
  rfl
theorem p_subM7 (h7 : y = 7) : zpc (fX12_does_154 μ y b a c 0 ((a - b) - c)) (fun r => r = zsi μ 3 1 (gxy (mF (μ.1 3 1) (hS a b c) (cX ((a - b) - c)) (((a - b) - c) &&& 255) (oX ((sg a - sg b) - c)) 1) b)) := by
  unfold fX12_does_154
  refine zpc_if (fun _ => ?_) (fun q => absurd rfl q)
  refine zpc_j (K := fun h => fX12_does_208 μ y b a c 0 ((a - b) - c) h 4) (a := 0) (b := 1) (fun h eh => ?_)
  have eh : h = hS a b c := eh
  unfold fX12_does_208
  refine zpc_bu p_put' (fun t et => ?_)
  subst et
  unfold fX12_does_226
  refine zpc_j3 (K := fun w => fX12_does_231 (zsi μ 3 1 (pt (μ.1 3 1) 4 h)) y b a c 0 ((a - b) - c) w 0) (fun w ew => ?_)
  have ew : w = cX ((a - b) - c) := ew
  unfold fX12_does_231
  refine zpc_bu p_put (fun t et => ?_)
  subst et
  refine zpc_if (fun _ => ?_) (fun q => absurd rfl q)
  refine zpc_bi p_signed (fun t u et => ?_)
  cases et
  refine zpc_bi p_signed (fun t u et => ?_)
  cases et
  unfold fX12_does_266
  refine zpc_bu p_by (fun t et => ?_)
  subst et
  unfold fX12_does_294
  refine zpc_j3 (K := fun u => fX12_does_299 (zsi μ 3 1 (gby (pt (pt (μ.1 3 1) 4 h) 0 w) (((a - b) - c) &&& 255))) y b 0 ((a - b) - c) u 2) (fun u eu => ?_)
  have eu : u = oX ((sg a - sg b) - c) := eu
  unfold fX12_does_299
  refine zpc_bu p_put (fun t et => ?_)
  subst et
  refine zpc_if (fun _ => ?_) (fun q => absurd rfl q)
  unfold fX12_does_314 fX12_does_343
  refine zpc_bu p_put (fun t et => ?_)
  subst et
  refine zpc_if (fun _ => zpc_bu p_xy (fun t et => zpc_some ?_)) (fun q => absurd h7 q)
  rw [et, eh, ew, eu]
  rfl
/-! the class -/
noncomputable def csum (a b c : Int32) : Int32 := ((cby (((a + b) + c) &&& 255) ||| (((a ^^^ b) ^^^ (((a + b) + c) &&& 255)) &&& 16)) ||| (if (((a ^^^ b) ^^^ (-1)) &&& (a ^^^ (((a + b) + c) &&& 255))) &&& 128 = 0 then 0 else 4)) ||| (((a + b) + c) >>> ((8 : Int32) &&& 31))
noncomputable def cdif (a b c : Int32) : Int32 := (((cby (((a - b) - c) &&& 255) ||| (((a ^^^ b) ^^^ (((a - b) - c) &&& 255)) &&& 16)) ||| (if ((a ^^^ b) &&& (a ^^^ (((a - b) - c) &&& 255))) &&& 128 = 0 then 0 else 4)) ||| 2) ||| (if 0 ≤ (a - b) - c then 0 else 1)
theorem p_sumC : zpc (fX5_sum σ a b c) (fun r => r = (zsi σ 36 1 (csum a b c), ((a + b) + c) &&& 255)) := by
  unfold fX5_sum fX5_sum_61 csum
  refine zpc_bv (fun v ev => zpc_bv (fun w ew => zpc_bv (fun u eu => zpc_bi p_byC (fun t x et => ?_))))
  cases et
  subst ev
  subst ew
  subst eu
  refine zpc_if (fun q => zpc_ck (zpc_bv (fun t et => zpc_some ?_))) (fun q => zpc_ck (zpc_bv (fun t et => zpc_some ?_)))
  · rw [et, if_pos q]; rfl
  · rw [et, if_neg q]; rfl
theorem p_difC : zpc (fX5_difference σ a b c) (fun r => r = (zsi σ 36 1 (cdif a b c), ((a - b) - c) &&& 255)) := by
  unfold fX5_difference fX5_difference_59 fX5_difference_72 cdif
  refine zpc_bv (fun v ev => zpc_bv (fun w ew => zpc_bv (fun u eu => zpc_bi p_byC (fun t x et => ?_))))
  cases et
  subst ev
  subst ew
  subst eu
  refine zpc_if (fun q => zpc_if (fun q2 => zpc_ck (zpc_bv (fun t et => zpc_some ?_))) (fun q2 => zpc_ck (zpc_bv (fun t et => zpc_some ?_)))) (fun q => zpc_if (fun q2 => zpc_ck (zpc_bv (fun t et => zpc_some ?_))) (fun q2 => zpc_ck (zpc_bv (fun t et => zpc_some ?_))))
  · rw [et, if_pos q, if_pos q2]; rfl
  · rw [et, if_pos q, if_neg q2]; rfl
  · rw [et, if_neg q, if_pos q2]; rfl
  · rw [et, if_neg q, if_neg q2]; rfl
end ZAR
/-! the same flags -/
theorem z_xad {x y m : Int32} : (x ^^^ y) &&& m = (x &&& m) ^^^ (y &&& m) := by
  refine Int32.toBitVec_inj.1 ?_
  rw [Int32.toBitVec_and, Int32.toBitVec_xor, Int32.toBitVec_xor, Int32.toBitVec_and, Int32.toBitVec_and]
  refine BitVec.eq_of_getLsbD_eq (fun i hi => ?_)
  rw [BitVec.getLsbD_and, BitVec.getLsbD_xor, BitVec.getLsbD_xor, BitVec.getLsbD_and, BitVec.getLsbD_and]
  cases x.toBitVec.getLsbD i <;> cases y.toBitVec.getLsbD i <;> cases m.toBitVec.getLsbD i <;> rfl
theorem z_sm31 (a b c : Int32) : ((a + b) + c) &&& 31 = (((a &&& 31) + (b &&& 31)) + c) &&& 31 := by
  refine Int32.toBitVec_inj.1 ?_
  rw [Int32.toBitVec_and, Int32.toBitVec_and, Int32.toBitVec_add, Int32.toBitVec_add, Int32.toBitVec_add, Int32.toBitVec_add, Int32.toBitVec_and, Int32.toBitVec_and]
  refine BitVec.eq_of_toNat_eq ?_
  rw [BitVec.toNat_and, BitVec.toNat_and, BitVec.toNat_add, BitVec.toNat_add, BitVec.toNat_add, BitVec.toNat_add, BitVec.toNat_and, BitVec.toNat_and]
  rw [show (31 : Int32).toBitVec.toNat = 2 ^ 5 - 1 from rfl, Nat.and_two_pow_sub_one_eq_mod, Nat.and_two_pow_sub_one_eq_mod, Nat.and_two_pow_sub_one_eq_mod, Nat.and_two_pow_sub_one_eq_mod]
  omega
theorem z_dm31 (a b c : Int32) : ((a - b) - c) &&& 31 = (((a &&& 31) - (b &&& 31)) - c) &&& 31 := by
  refine Int32.toBitVec_inj.1 ?_
  rw [Int32.toBitVec_and, Int32.toBitVec_and, Int32.toBitVec_sub, Int32.toBitVec_sub, Int32.toBitVec_sub, Int32.toBitVec_sub, Int32.toBitVec_and, Int32.toBitVec_and]
  refine BitVec.eq_of_toNat_eq ?_
  rw [BitVec.toNat_and, BitVec.toNat_and, BitVec.toNat_sub, BitVec.toNat_sub, BitVec.toNat_sub, BitVec.toNat_sub, BitVec.toNat_and, BitVec.toNat_and]
  rw [show (31 : Int32).toBitVec.toNat = 2 ^ 5 - 1 from rfl, Nat.and_two_pow_sub_one_eq_mod, Nat.and_two_pow_sub_one_eq_mod, Nat.and_two_pow_sub_one_eq_mod, Nat.and_two_pow_sub_one_eq_mod]
  have := a.toBitVec.isLt
  have := b.toBitVec.isLt
  have := c.toBitVec.isLt
  omega
theorem z_r31 (x : Int32) : zr 0 31 (x &&& 31) := zr_andr (lo := 0) (hi := 31) (zr_c (lo := 31) (hi := 31) (by decide)) (by decide)
theorem z_fin32 {x : Int32} (h : zr 0 31 x) : ∃ i : Fin 32, x = Int32.ofNat i.val := by
  obtain ⟨h0, h1⟩ := h
  obtain ⟨i, hi⟩ : ∃ i : Nat, x.toInt = i := ⟨x.toInt.toNat, by omega⟩
  exact ⟨⟨i, by omega⟩, z_ofN hi⟩
theorem z_bit1 {c : Int32} (h : zr 0 1 c) : ∃ i : Fin 2, c = Int32.ofNat i.val := by
  obtain ⟨h0, h1⟩ := h
  obtain ⟨i, hi⟩ : ∃ i : Nat, c.toInt = i := ⟨c.toInt.toNat, by omega⟩
  exact ⟨⟨i, by omega⟩, z_ofN hi⟩
theorem v_hAf : ∀ a : Fin 32, ∀ b : Fin 32, ∀ c : Fin 2, (((Int32.ofNat a.val &&& 16) ^^^ (Int32.ofNat b.val &&& 16)) ^^^ ((((Int32.ofNat a.val + Int32.ofNat b.val) + Int32.ofNat c.val) &&& 31) &&& 16)) = bif bc (hA (Int32.ofNat a.val) (Int32.ofNat b.val) (Int32.ofNat c.val)) then 16 else 0 := by decide +kernel
theorem v_hSf : ∀ a : Fin 32, ∀ b : Fin 32, ∀ c : Fin 2, (((Int32.ofNat a.val &&& 16) ^^^ (Int32.ofNat b.val &&& 16)) ^^^ ((((Int32.ofNat a.val - Int32.ofNat b.val) - Int32.ofNat c.val) &&& 31) &&& 16)) = bif bc (hS (Int32.ofNat a.val) (Int32.ofNat b.val) (Int32.ofNat c.val)) then 16 else 0 := by decide +kernel
theorem z_3116 (x : Int32) : x &&& 16 = (x &&& 31) &&& 16 := by rw [Int32.and_assoc, show (31 : Int32) &&& 16 = 16 by decide]
theorem z_3115 (x : Int32) : x &&& 15 = (x &&& 31) &&& 15 := by rw [Int32.and_assoc, show (31 : Int32) &&& 15 = 15 by decide]
theorem z_25516 (x : Int32) : (x &&& 255) &&& 16 = (x &&& 31) &&& 16 := by rw [Int32.and_assoc, Int32.and_assoc, show (31 : Int32) &&& 16 = 16 by decide, show (255 : Int32) &&& 16 = 16 by decide]
theorem v_hA {a b c : Int32} (hc : zr 0 1 c) : ((a ^^^ b) ^^^ (((a + b) + c) &&& 255)) &&& 16 = bif bc (hA a b c) then 16 else 0 := by
  have e : hA a b c = hA (a &&& 31) (b &&& 31) c := by unfold hA; rw [z_3115 a, z_3115 b]
  rw [e, z_xad, z_xad, z_25516, z_sm31, z_3116 a, z_3116 b]
  obtain ⟨i, ei⟩ := z_fin32 (z_r31 a)
  obtain ⟨j, ej⟩ := z_fin32 (z_r31 b)
  obtain ⟨k, ek⟩ := z_bit1 hc
  rw [ei, ej, ek]
  exact v_hAf i j k
theorem v_hS {a b c : Int32} (hc : zr 0 1 c) : ((a ^^^ b) ^^^ (((a - b) - c) &&& 255)) &&& 16 = bif bc (hS a b c) then 16 else 0 := by
  have e : hS a b c = hS (a &&& 31) (b &&& 31) c := by unfold hS; rw [z_3115 a, z_3115 b]
  rw [e, z_xad, z_xad, z_25516, z_dm31, z_3116 a, z_3116 b]
  obtain ⟨i, ei⟩ := z_fin32 (z_r31 a)
  obtain ⟨j, ej⟩ := z_fin32 (z_r31 b)
  obtain ⟨k, ek⟩ := z_bit1 hc
  rw [ei, ej, ek]
  exact v_hSf i j k
theorem v_b7f : ∀ i : Fin 256, (Int32.ofNat i.val &&& 128 = 0 ∧ Int32.ofNat i.val < 128) ∨ (Int32.ofNat i.val &&& 128 = 128 ∧ ¬ Int32.ofNat i.val < 128) := by decide +kernel
theorem z_b7c {a : Int32} (h : zr 0 255 a) : (a &&& 128 = 0 ∧ a.toInt < 128 ∧ sg a = a) ∨ (a &&& 128 = 128 ∧ 128 ≤ a.toInt ∧ sg a = a - 256) := by
  have c : (128 : Int32).toInt = 128 := rfl
  have g : (a &&& 128 = 0 ∧ a < 128) ∨ (a &&& 128 = 128 ∧ ¬ a < 128) := by
    obtain ⟨i, e⟩ := z_byteF h
    rw [e]
    exact v_b7f i
  rcases g with ⟨x, y⟩ | ⟨x, y⟩
  · have y1 := Int32.lt_iff_toInt_lt.mp y
    exact Or.inl ⟨x, by omega, by unfold sg; rw [if_neg (fun q => by have := Int32.le_iff_toInt_le.mp q; omega)]⟩
  · have y1 := Int32.le_iff_toInt_le.mp (z_nlt y)
    exact Or.inr ⟨x, by omega, by unfold sg; rw [if_pos (z_nlt y)]⟩
theorem z_w8 {v : Int32} {k : Int} (e : v.toInt = k) (h : -256 ≤ k ∧ k ≤ 511) : (v &&& 255).toInt = k % 256 := by
  have e1 : (v &&& 255) = ((v + 256) &&& 255) := by
    refine Int32.toBitVec_inj.1 ?_
    rw [Int32.toBitVec_and, Int32.toBitVec_and, Int32.toBitVec_add]
    refine BitVec.eq_of_toNat_eq ?_
    rw [BitVec.toNat_and, BitVec.toNat_and, BitVec.toNat_add]
    rw [show (255 : Int32).toBitVec.toNat = 2 ^ 8 - 1 from rfl, show (256 : Int32).toBitVec.toNat = 256 from rfl, Nat.and_two_pow_sub_one_eq_mod, Nat.and_two_pow_sub_one_eq_mod]
    omega
  have c : (256 : Int32).toInt = 256 := rfl
  have t : (v + 256).toInt = v.toInt + (256 : Int32).toInt := z_tadd (a := -256) (b := 511) ⟨by omega, by omega⟩ (zr_c (lo := 256) (hi := 256) (x := 256) (by decide)) (by decide)
  rw [e1, z_mask (k := 8) (by omega) rfl (by decide), t, e, c]
  show (k + 256) % 256 = k % 256
  omega
theorem oX_v {s : Int32} {k : Int} (e : s.toInt = k) : ((k < -128 ∨ 127 < k) ∧ oX s = 1) ∨ ((-128 ≤ k ∧ k ≤ 127) ∧ oX s = 0) := by
  have c1 : (-128 : Int32).toInt = -128 := rfl
  have c2 : (127 : Int32).toInt = 127 := rfl
  unfold oX
  by_cases q : s < (-128)
  · have q1 := Int32.lt_iff_toInt_lt.mp q
    exact Or.inl ⟨Or.inl (by omega), by rw [if_pos q]⟩
  · have q1 := Int32.le_iff_toInt_le.mp (z_nlt q)
    rw [if_neg q]
    by_cases r : s ≤ 127
    · have r1 := Int32.le_iff_toInt_le.mp r
      exact Or.inr ⟨⟨by omega, by omega⟩, by rw [if_pos r]⟩
    · have r1 := Int32.lt_iff_toInt_lt.mp (z_nle r)
      exact Or.inl ⟨Or.inr (by omega), by rw [if_neg r]⟩
theorem z_rs {a : Int32} (h : zr 0 255 a) : zr (-128) 127 (sg a) ∧ ((a &&& 128 = 0 ∧ (sg a).toInt = a.toInt ∧ a.toInt < 128) ∨ (a &&& 128 = 128 ∧ (sg a).toInt = a.toInt - 256 ∧ 128 ≤ a.toInt)) := by
  have c : (256 : Int32).toInt = 256 := rfl
  have h0 := h.1
  have h1 := h.2
  rcases z_b7c h with ⟨x, y, z⟩ | ⟨x, y, z⟩
  · rw [z]; exact ⟨⟨by omega, by omega⟩, Or.inl ⟨x, rfl, y⟩⟩
  · have t : (a - 256).toInt = a.toInt - (256 : Int32).toInt := z_tsub h (zr_c (lo := 256) (hi := 256) (by decide)) (by decide)
    rw [z]; exact ⟨⟨by omega, by omega⟩, Or.inr ⟨x, by omega, y⟩⟩
theorem v_oA {a b c : Int32} (ha : zr 0 255 a) (hb : zr 0 255 b) (hc : zr 0 1 c) : (if (((a ^^^ b) ^^^ (-1)) &&& (a ^^^ (((a + b) + c) &&& 255))) &&& 128 = 0 then (0 : Int32) else 4) = bif bc (oX ((sg a + sg b) + c)) then 4 else 0 := by
  have a0 := ha.1
  have a1 := ha.2
  have b0 := hb.1
  have b1 := hb.2
  have c0 := hc.1
  have c1 := hc.2
  have t1 := z_tadd ha hb (by decide)
  have t2 := z_tadd (zr_add (lo := 0) (hi := 510) ha hb (by decide)) hc (by decide)
  have hw := z_w8 (v := (a + b) + c) rfl (by omega)
  obtain ⟨ra, ka⟩ := z_rs ha
  obtain ⟨rb, kb⟩ := z_rs hb
  have u1 := z_tadd ra rb (by decide)
  have u2 := z_tadd (zr_add (lo := -256) (hi := 254) ra rb (by decide)) hc (by decide)
  have ov := oX_v (s := (sg a + sg b) + c) rfl
  obtain ⟨_, kw⟩ := z_rs (z_byte ((a + b) + c))
  have d : (((a ^^^ b) ^^^ (-1)) &&& (a ^^^ (((a + b) + c) &&& 255))) &&& 128 = ((((a &&& 128) ^^^ (b &&& 128)) ^^^ ((-1) &&& 128)) &&& ((a &&& 128) ^^^ ((((a + b) + c) &&& 255) &&& 128))) := by
    rw [Int32.and_assoc, show (a ^^^ (((a + b) + c) &&& 255)) &&& 128 = (a &&& 128) ^^^ ((((a + b) + c) &&& 255) &&& 128) from z_xad]
    have k : ∀ x y : Int32, x &&& ((a &&& 128) ^^^ (y &&& 128)) = (x &&& 128) &&& ((a &&& 128) ^^^ (y &&& 128)) := fun x y => by
      rw [← z_xad, Int32.and_assoc x 128, Int32.and_comm 128, Int32.and_assoc, show (128 : Int32) &&& 128 = 128 by decide]
    rw [k, z_xad, z_xad (x := a) (y := b)]
  rw [d]
  rcases ka with ⟨p1, p2, p3⟩ | ⟨p1, p2, p3⟩ <;> rcases kb with ⟨q1, q2, q3⟩ | ⟨q1, q2, q3⟩ <;> rcases kw with ⟨r1, r2, r3⟩ | ⟨r1, r2, r3⟩ <;> rw [p1, q1, r1] <;> rcases ov with ⟨o1, o2⟩ | ⟨o1, o2⟩ <;> rw [o2] <;> first | decide | (exfalso; omega)
theorem v_oS {a b c : Int32} (ha : zr 0 255 a) (hb : zr 0 255 b) (hc : zr 0 1 c) : (if ((a ^^^ b) &&& (a ^^^ (((a - b) - c) &&& 255))) &&& 128 = 0 then (0 : Int32) else 4) = bif bc (oX ((sg a - sg b) - c)) then 4 else 0 := by
  have a0 := ha.1
  have a1 := ha.2
  have b0 := hb.1
  have b1 := hb.2
  have c0 := hc.1
  have c1 := hc.2
  have t1 := z_tsub ha hb (by decide)
  have t2 := z_tsub (zr_sub (lo := -255) (hi := 255) ha hb (by decide)) hc (by decide)
  have hw := z_w8 (v := (a - b) - c) rfl (by omega)
  obtain ⟨ra, ka⟩ := z_rs ha
  obtain ⟨rb, kb⟩ := z_rs hb
  have u1 := z_tsub ra rb (by decide)
  have u2 := z_tsub (zr_sub (lo := -255) (hi := 255) ra rb (by decide)) hc (by decide)
  have ov := oX_v (s := (sg a - sg b) - c) rfl
  obtain ⟨_, kw⟩ := z_rs (z_byte ((a - b) - c))
  have d : ((a ^^^ b) &&& (a ^^^ (((a - b) - c) &&& 255))) &&& 128 = ((a &&& 128) ^^^ (b &&& 128)) &&& ((a &&& 128) ^^^ ((((a - b) - c) &&& 255) &&& 128)) := by
    rw [Int32.and_assoc, show (a ^^^ (((a - b) - c) &&& 255)) &&& 128 = (a &&& 128) ^^^ ((((a - b) - c) &&& 255) &&& 128) from z_xad]
    have k : ∀ x y : Int32, x &&& ((a &&& 128) ^^^ (y &&& 128)) = (x &&& 128) &&& ((a &&& 128) ^^^ (y &&& 128)) := fun x y => by
      rw [← z_xad, Int32.and_assoc x 128, Int32.and_comm 128, Int32.and_assoc, show (128 : Int32) &&& 128 = 128 by decide]
    rw [k, z_xad]
  rw [d]
  rcases ka with ⟨p1, p2, p3⟩ | ⟨p1, p2, p3⟩ <;> rcases kb with ⟨q1, q2, q3⟩ | ⟨q1, q2, q3⟩ <;> rcases kw with ⟨r1, r2, r3⟩ | ⟨r1, r2, r3⟩ <;> rw [p1, q1, r1] <;> rcases ov with ⟨o1, o2⟩ | ⟨o1, o2⟩ <;> rw [o2] <;> first | decide | (exfalso; omega)
theorem v_cbyf : ∀ i : Fin 256, cby (Int32.ofNat i.val) = zfl (d7 (Int32.ofNat i.val)) (d6 (Int32.ofNat i.val)) (d5 (Int32.ofNat i.val)) false (d3 (Int32.ofNat i.val)) false false false := by decide +kernel
theorem v_cby {w : Int32} (h : zr 0 255 w) : cby w = zfl (d7 w) (d6 w) (d5 w) false (d3 w) false false false := by
  obtain ⟨i, e⟩ := z_byteF h
  rw [e]
  exact v_cbyf i
theorem v_cAf : ∀ i : Fin 512, (Int32.ofNat i.val) >>> ((8 : Int32) &&& 31) = bif bc (cX (Int32.ofNat i.val)) then 1 else 0 := by decide +kernel
theorem v_cS {v : Int32} (h : zr (-256) 255 v) : (if 0 ≤ v then (0 : Int32) else 1) = bif bc (cX v) then 1 else 0 := by
  have c0 : (0 : Int32).toInt = 0 := rfl
  have c1 : (255 : Int32).toInt = 255 := rfl
  have h1 := h.2
  unfold cX
  by_cases q : v < 0
  · have q1 := Int32.lt_iff_toInt_lt.mp q
    rw [if_pos q, if_neg (fun r => by have := Int32.le_iff_toInt_le.mp r; omega)]
    rfl
  · rw [if_neg q, if_pos (z_nlt q), if_pos (Int32.le_iff_toInt_le.mpr (by omega))]
    rfl
theorem v_sumB : ∀ b7 b6 b5 b3 h v c : Bool, zfl b7 b6 b5 h b3 v false c = ((zfl b7 b6 b5 false b3 false false false ||| (bif h then 16 else 0)) ||| (bif v then 4 else 0)) ||| (bif c then 1 else 0) := by decide
theorem v_difB : ∀ b7 b6 b5 b3 h v c : Bool, zfl b7 b6 b5 h b3 v true c = (((zfl b7 b6 b5 false b3 false false false ||| (bif h then 16 else 0)) ||| (bif v then 4 else 0)) ||| 2) ||| (bif c then 1 else 0) := by decide
end ZJN25
section ZJN26
/-! DO WITH A -/
theorem v_sum {a b c : Int32} (ha : zr 0 255 a) (hb : zr 0 255 b) (hc : zr 0 1 c) : zfl (d7 (((a + b) + c) &&& 255)) (d6 (((a + b) + c) &&& 255)) (d5 (((a + b) + c) &&& 255)) (bc (hA a b c)) (d3 (((a + b) + c) &&& 255)) (bc (oX ((sg a + sg b) + c))) false (bc (cX ((a + b) + c))) = csum a b c := by
  have r : zr 0 511 ((a + b) + c) := zr_add (lo := 0) (hi := 511) (zr_add (lo := 0) (hi := 510) ha hb (by decide)) hc (by decide)
  have e8 : ((a + b) + c) >>> ((8 : Int32) &&& 31) = bif bc (cX ((a + b) + c)) then 1 else 0 := by
    obtain ⟨r0, r1⟩ := r
    obtain ⟨i, hi⟩ : ∃ i : Nat, ((a + b) + c).toInt = i := ⟨((a + b) + c).toInt.toNat, by omega⟩
    rw [z_ofN hi]
    exact v_cAf ⟨i, by omega⟩
  unfold csum
  rw [v_sumB, v_hA hc, v_oA ha hb hc, e8, v_cby (z_byte _)]
theorem v_dif {a b c : Int32} (ha : zr 0 255 a) (hb : zr 0 255 b) (hc : zr 0 1 c) : zfl (d7 (((a - b) - c) &&& 255)) (d6 (((a - b) - c) &&& 255)) (d5 (((a - b) - c) &&& 255)) (bc (hS a b c)) (d3 (((a - b) - c) &&& 255)) (bc (oX ((sg a - sg b) - c))) true (bc (cX ((a - b) - c))) = cdif a b c := by
  have r : zr (-256) 255 ((a - b) - c) := zr_sub (lo := -256) (hi := 255) (zr_sub (lo := -255) (hi := 255) ha hb (by decide)) hc (by decide)
  unfold cdif
  rw [v_difB, v_hS hc, v_oS ha hb hc, v_cS r, v_cby (z_byte _)]
theorem v_40 : ∀ i : Fin 256, Int32.ofNat i.val &&& 40 = (bif d5 (Int32.ofNat i.val) then 32 else 0) ||| (bif d3 (Int32.ofNat i.val) then 8 else 0) := by decide +kernel
theorem v_41 : ∀ b7 b6 b5 b4 b3 b2 b1 b0 x y : Bool, ((zfl b7 b6 b5 b4 b3 b2 b1 b0) &&& (-41)) ||| ((bif x then 32 else 0) ||| (bif y then 8 else 0)) = zfl b7 b6 x b4 y b2 b1 b0 := by decide
theorem v_cp {b7 b6 b5 b4 b3 b2 b1 b0 : Bool} {b : Int32} (hb : zr 0 255 b) : ((zfl b7 b6 b5 b4 b3 b2 b1 b0) &&& (-41)) ||| (b &&& 40) = zfl b7 b6 (d5 b) b4 (d3 b) b2 b1 b0 := by
  obtain ⟨i, ei⟩ := z_byteF hb
  subst ei
  rw [v_40 i]
  exact v_41 _ _ _ _ _ _ _ _ _ _
/-- and, or, xor: parity on both sides -/
theorem v_lgf : ∀ i : Fin 256, ∀ h : Bool, zfl (d7 (Int32.ofNat i.val)) (d6 (Int32.ofNat i.val)) (d5 (Int32.ofNat i.val)) h (d3 (Int32.ofNat i.val)) (bc (gev (Int32.ofNat i.val))) false false = (cby (Int32.ofNat i.val) ||| cpar (Int32.ofNat i.val)) ||| (bif h then 16 else 0) := by decide +kernel
theorem v_lg {w : Int32} (hw : zr 0 255 w) (h : Bool) : zfl (d7 w) (d6 w) (d5 w) h (d3 w) (bc (gev w)) false false = (cby w ||| cpar w) ||| (bif h then 16 else 0) := by
  obtain ⟨i, ei⟩ := z_byteF hw
  subst ei
  exact v_lgf i h
theorem v_c0 : ∀ i : Fin 256, ((Int32.ofNat i.val) >>> ((0 : Int32) &&& 31)) &&& 1 = Int32.ofNat i.val &&& 1 := by decide +kernel
theorem z_c0 {f : Int32} (h : zr 0 255 f) : (f >>> ((0 : Int32) &&& 31)) &&& 1 = f &&& 1 := by
  obtain ⟨i, ei⟩ := z_byteF h
  subst ei
  exact v_c0 i
theorem z_r1 (x : Int32) : zr 0 1 (x &&& 1) := zr_andr (lo := 0) (hi := 1) (zr_c (lo := 1) (hi := 1) (by decide)) (by decide)
theorem z_xb {a b : Int32} (ha : zr 0 255 a) (hb : zr 0 255 b) : zr 0 255 (a ^^^ b) := by
  have e : a ^^^ b = (a ^^^ b) &&& 255 := by
    rw [z_xad, z_m255 ha, z_m255 hb]
  rw [e]
  exact z_r8 _
theorem z_ob {a b : Int32} (ha : zr 0 255 a) (hb : zr 0 255 b) : zr 0 255 (a ||| b) := zr_or (lo := 0) (hi := 255) 8 ha hb (by decide)
theorem z_ab {a b : Int32} (hb : zr 0 255 b) : zr 0 255 (a &&& b) := zr_andr (lo := 0) (hi := 255) hb (by decide)
theorem csum_r {a b c : Int32} (ha : zr 0 255 a) (hb : zr 0 255 b) (hc : zr 0 1 c) : zr 0 255 (csum a b c) := by rw [← v_sum ha hb hc]; exact zfl_r _ _ _ _ _ _ _ _
theorem cdif_r {a b c : Int32} (ha : zr 0 255 a) (hb : zr 0 255 b) (hc : zr 0 1 c) : zr 0 255 (cdif a b c) := by rw [← v_dif ha hb hc]; exact zfl_r _ _ _ _ _ _ _ _
section ZDO
variable {I : zSt → zSt → Prop} {σ μ : zSt}
theorem t_do (hI : zIoK I) (h : zTT I σ μ) (hF : zF σ μ) {y b : Int32} (hy : zr 0 7 y) (hb : zr 0 255 b) : zp2 (fX5_doWith σ y b) (fX12_does μ y b) (fun r r' => zTT I r r' ∧ zF r r' ∧ zQ [] [(36, 0, 1)] [] [] σ r ∧ zQ [] [(3, 0, 1)] [] [] μ r') := by
  have ea : μ.1 3 0 = σ.1 36 0 := h.eq (by decide)
  have ef : μ.1 3 1 = σ.1 36 1 := hF
  have ha : zr 0 255 (σ.1 36 0) := h.b (by decide)
  have hf : zr 0 255 (σ.1 36 1) := h.b (by decide)
  have c0 : zr 0 1 (0 : Int32) := zr_c (by decide)
  -- the end: both states given
  have fin : ∀ (A F A' F' : Int32), A' = A → F' = F → zr 0 255 A → zr 0 255 F → ∀ s t, s = zsi (zsi σ 36 1 F) 36 0 A → t = zsi (zsi μ 3 1 F') 3 0 A' → zTT I s t ∧ zF s t ∧ zQ [] [(36, 0, 1)] [] [] σ s ∧ zQ [] [(3, 0, 1)] [] [] μ t := fun A F A' F' e1 e2 r1 r2 s t es et => by
    subst es
    subst et
    subst e1
    subst e2
    exact ⟨h.upd hI [0, 1] (zQ.wi (zQ.wi zQ.rf rfl) rfl) (zQ.wi (zQ.wi zQ.rf rfl) rfl) rfl (zAl2 ⟨rfl, zrg_b (Or.inl (by decide)) r1⟩ ⟨rfl, zrg_b (Or.inl (by decide)) r2⟩), rfl, zQ.wi (zQ.wi zQ.rf rfl) rfl, zQ.wi (zQ.wi zQ.rf rfl) rfl⟩
  unfold fX5_doWith fX12_does fX5_doWith_292
  refine zp2_ckr (zp2_bvr (fun a' ea' => ?_))
  have ea' : a' = σ.1 36 0 := ea'.trans ea
  subst ea'

  rcases zr_hd (c := 0) hy rfl with e | hy
  · subst e
    have m : zpc (fX12_does_101 μ 0 b (σ.1 36 0)) (fun r => r = zsi (zsi μ 3 1 (mF (μ.1 3 1) (hA (σ.1 36 0) b 0) (cX ((σ.1 36 0 + b) + 0)) (((σ.1 36 0 + b) + 0) &&& 255) (oX ((sg (σ.1 36 0) + sg b) + 0)) 0)) 3 0 (((σ.1 36 0 + b) + 0) &&& 255)) := by
      unfold fX12_does_101 fX12_does_111 fX12_does_120 fX12_does_132
      refine zpc_if (fun q => absurd q (by decide)) (fun _ => zpc_if (fun q => absurd q (by decide)) (fun _ => zpc_if (fun q => absurd q (by decide)) (fun _ => zpc_if (fun q => absurd q (by decide)) (fun _ => p_addM (by decide)))))
    have c : zpc (fX5_sum σ (zgi σ 36 (0 : Int32).toNatClampNeg) b 0) (fun r => r = (zsi σ 36 1 (csum (σ.1 36 0) b 0), ((σ.1 36 0 + b) + 0) &&& 255)) := p_sumC
    refine zp2_ifl (fun _ => zp2_ckl (zp2_bil c (fun s1 v1 e1 => ?_))) (fun q => absurd rfl q)
    cases e1
    refine zp2_ifr (fun _ => ?_) (fun q => absurd (by decide) q)
    intro r r' er er'
    have er : some (zsi (zsi σ 36 1 (csum (σ.1 36 0) b 0)) 36 0 (((σ.1 36 0 + b) + 0) &&& 255)) = some r := er
    cases er
    refine fin _ _ _ _ rfl ?_ (z_r8 _) (csum_r ha hb c0) _ _ rfl (m _ er')
    rw [ef, fl_mF hf, ← v_sum ha hb c0]
    rfl
  rcases zr_hd (c := 1) hy rfl with e | hy
  · subst e
    have m : zpc (fX12_does_101 μ 1 b (σ.1 36 0)) (fun r => r = zsi (zsi μ 3 1 (mF (μ.1 3 1) (hA (σ.1 36 0) b (σ.1 36 1 &&& 1)) (cX ((σ.1 36 0 + b) + (σ.1 36 1 &&& 1))) (((σ.1 36 0 + b) + (σ.1 36 1 &&& 1)) &&& 255) (oX ((sg (σ.1 36 0) + sg b) + (σ.1 36 1 &&& 1))) 0)) 3 0 (((σ.1 36 0 + b) + (σ.1 36 1 &&& 1)) &&& 255)) := by
      unfold fX12_does_101 fX12_does_111 fX12_does_120 fX12_does_132
      refine zpc_if (fun _ => zpc_bi p_flag (fun t u et => ?_)) (fun q => absurd rfl q)
      cases et
      refine zpc_if (fun q => absurd q (by decide)) (fun _ => zpc_if (fun q => absurd q (by decide)) (fun _ => ?_))
      rw [ef, z_c0 hf, ← ef]
      have g := p_addM (μ := μ) (a := σ.1 36 0) (b := b) (c := μ.1 3 1 &&& 1) (y := 1) (by decide)
      rw [ef] at g ⊢
      exact g
    have c : zpc (fX5_sum σ (zgi σ 36 (0 : Int32).toNatClampNeg) b ((zgi σ 36 (1 : Int32).toNatClampNeg) &&& 1)) (fun r => r = (zsi σ 36 1 (csum (σ.1 36 0) b (σ.1 36 1 &&& 1)), ((σ.1 36 0 + b) + (σ.1 36 1 &&& 1)) &&& 255)) := p_sumC
    refine zp2_ifl (fun q => absurd q (by decide)) (fun _ => zp2_ifl (fun _ => zp2_ckl (zp2_ckl (zp2_bil c (fun s1 v1 e1 => ?_)))) (fun q => absurd rfl q))
    cases e1
    refine zp2_ifr (fun _ => ?_) (fun q => absurd (by decide) q)
    intro r r' er er'
    have er : some (zsi (zsi σ 36 1 (csum (σ.1 36 0) b (σ.1 36 1 &&& 1))) 36 0 (((σ.1 36 0 + b) + (σ.1 36 1 &&& 1)) &&& 255)) = some r := er
    cases er
    refine fin _ _ _ _ rfl ?_ (z_r8 _) (csum_r ha hb (z_r1 _)) _ _ rfl (m _ er')
    rw [ef, fl_mF hf, ← v_sum ha hb (z_r1 _)]
    rfl
  rcases zr_hd (c := 2) hy rfl with e | hy
  · subst e
    have m : zpc (fX12_does_101 μ 2 b (σ.1 36 0)) (fun r => r = zsi (zsi μ 3 1 (mF (μ.1 3 1) (hS (σ.1 36 0) b 0) (cX ((σ.1 36 0 - b) - 0)) (((σ.1 36 0 - b) - 0) &&& 255) (oX ((sg (σ.1 36 0) - sg b) - 0)) 1)) 3 0 (((σ.1 36 0 - b) - 0) &&& 255)) := by
      unfold fX12_does_101 fX12_does_111 fX12_does_120 fX12_does_132
      refine zpc_if (fun q => absurd q (by decide)) (fun _ => zpc_if (fun q => absurd q (by decide)) (fun _ => zpc_if (fun _ => zpc_if (fun _ => p_subM (by decide)) (fun q => absurd rfl q)) (fun q => absurd (by decide) q)))
    have c : zpc (fX5_difference σ (zgi σ 36 (0 : Int32).toNatClampNeg) b 0) (fun r => r = (zsi σ 36 1 (cdif (σ.1 36 0) b 0), ((σ.1 36 0 - b) - 0) &&& 255)) := p_difC
    refine zp2_ifl (fun q => absurd q (by decide)) (fun _ => zp2_ifl (fun q => absurd q (by decide)) (fun _ => zp2_ifl (fun _ => zp2_ckl (zp2_bil c (fun s1 v1 e1 => ?_))) (fun q => absurd rfl q)))
    cases e1
    refine zp2_ifr (fun _ => ?_) (fun q => absurd (by decide) q)
    intro r r' er er'
    have er : some (zsi (zsi σ 36 1 (cdif (σ.1 36 0) b 0)) 36 0 (((σ.1 36 0 - b) - 0) &&& 255)) = some r := er
    cases er
    refine fin _ _ _ _ rfl ?_ (z_r8 _) (cdif_r ha hb c0) _ _ rfl (m _ er')
    rw [ef, fl_mF hf, ← v_dif ha hb c0]
    rfl
  rcases zr_hd (c := 3) hy rfl with e | hy
  · subst e
    have m : zpc (fX12_does_101 μ 3 b (σ.1 36 0)) (fun r => r = zsi (zsi μ 3 1 (mF (μ.1 3 1) (hS (σ.1 36 0) b (σ.1 36 1 &&& 1)) (cX ((σ.1 36 0 - b) - (σ.1 36 1 &&& 1))) (((σ.1 36 0 - b) - (σ.1 36 1 &&& 1)) &&& 255) (oX ((sg (σ.1 36 0) - sg b) - (σ.1 36 1 &&& 1))) 1)) 3 0 (((σ.1 36 0 - b) - (σ.1 36 1 &&& 1)) &&& 255)) := by
      unfold fX12_does_101 fX12_does_111 fX12_does_120 fX12_does_132
      refine zpc_if (fun q => absurd q (by decide)) (fun _ => zpc_if (fun _ => zpc_bi p_flag (fun t u et => ?_)) (fun q => absurd rfl q))
      cases et
      refine zpc_if (fun _ => zpc_if (fun _ => ?_) (fun q => absurd rfl q)) (fun q => absurd (by decide) q)
      rw [ef, z_c0 hf, ← ef]
      have g := p_subM (μ := μ) (a := σ.1 36 0) (b := b) (c := μ.1 3 1 &&& 1) (y := 3) (by decide)
      rw [ef] at g ⊢
      exact g
    have c : zpc (fX5_difference σ (zgi σ 36 (0 : Int32).toNatClampNeg) b ((zgi σ 36 (1 : Int32).toNatClampNeg) &&& 1)) (fun r => r = (zsi σ 36 1 (cdif (σ.1 36 0) b (σ.1 36 1 &&& 1)), ((σ.1 36 0 - b) - (σ.1 36 1 &&& 1)) &&& 255)) := p_difC
    refine zp2_ifl (fun q => absurd q (by decide)) (fun _ => zp2_ifl (fun q => absurd q (by decide)) (fun _ => zp2_ifl (fun q => absurd q (by decide)) (fun _ => zp2_ifl (fun _ => zp2_ckl (zp2_ckl (zp2_bil c (fun s1 v1 e1 => ?_)))) (fun q => absurd rfl q))))
    cases e1
    refine zp2_ifr (fun _ => ?_) (fun q => absurd (by decide) q)
    intro r r' er er'
    have er : some (zsi (zsi σ 36 1 (cdif (σ.1 36 0) b (σ.1 36 1 &&& 1))) 36 0 (((σ.1 36 0 - b) - (σ.1 36 1 &&& 1)) &&& 255)) = some r := er
    cases er
    refine fin _ _ _ _ rfl ?_ (z_r8 _) (cdif_r ha hb (z_r1 _)) _ _ rfl (m _ er')
    rw [ef, fl_mF hf, ← v_dif ha hb (z_r1 _)]
    rfl
  rcases zr_hd (c := 4) hy rfl with e | hy
  · subst e
    have rA : zr 0 255 (σ.1 36 0 &&& b) := z_ab hb
    refine zp2_ifl (fun q => absurd q (by decide)) (fun _ => zp2_ifl (fun q => absurd q (by decide)) (fun _ => zp2_ifl (fun q => absurd q (by decide)) (fun _ => zp2_ifl (fun q => absurd q (by decide)) (fun _ => zp2_ifl (fun _ => zp2_ckl (zp2_ckl (zp2_bvl (fun s1 f1 => zp2_ckl (zp2_bil p_byC (fun s2 v2 e2 => ?_)))))) (fun q => absurd rfl q)))))
    cases e2
    refine zp2_ckl (zp2_bil p_parC (fun s3 v3 e3 => ?_))
    cases e3
    have g1 : zgi s1 36 (0 : Int32).toNatClampNeg = (σ.1 36 0 &&& b) := by subst f1; rfl
    rw [g1]
    refine zp2_ckl (zp2_bvl (fun s4 f4 => ?_))
    refine zp2_ifr (fun q => absurd q (by decide)) (fun _ => zp2_ifr (fun q => absurd q (by decide)) (fun _ => zp2_ifr (fun _ => ?_) (fun q => absurd rfl q)))
    intro r r' er er'
    cases er
    have em := p_logM (μ := μ) (y := 4) (A := (σ.1 36 0 &&& b)) (Or.inl rfl) _ er'
    have es : s4 = zsi (zsi σ 36 1 ((cby (σ.1 36 0 &&& b) ||| cpar (σ.1 36 0 &&& b)) ||| 16)) 36 0 (σ.1 36 0 &&& b) := by
      rw [f4, f1]
      exact zsi_comm (by decide)
    have em2 : r' = zsi (zsi μ 3 1 (pt (pt (pt (pt (gby (μ.1 3 1) (σ.1 36 0 &&& b)) 4 (if (4 : Int32) = 4 then 1 else 0)) 2 (gev (σ.1 36 0 &&& b))) 1 0) 0 0)) 3 0 (σ.1 36 0 &&& b) := by
      rw [em]
      exact zsi_comm (by decide)
    refine fin _ _ _ _ rfl ?_ rA ?_ _ _ es em2
    · rw [ef, fl_of hf, fl_by, pt_4, pt_2, pt_1, pt_0]
      refine Eq.trans ?_ ((v_lg rA true).trans ?_)
      · rfl
      · rfl
    · rw [show (cby (σ.1 36 0 &&& b) ||| cpar (σ.1 36 0 &&& b)) ||| 16 = (cby (σ.1 36 0 &&& b) ||| cpar (σ.1 36 0 &&& b)) ||| (bif true then 16 else 0) from rfl, ← v_lg rA true]
      exact zfl_r _ _ _ _ _ _ _ _
  rcases zr_hd (c := 5) hy rfl with e | hy
  · subst e
    have rA : zr 0 255 (σ.1 36 0 ^^^ b) := z_xb ha hb
    refine zp2_ifl (fun q => absurd q (by decide)) (fun _ => zp2_ifl (fun q => absurd q (by decide)) (fun _ => zp2_ifl (fun q => absurd q (by decide)) (fun _ => zp2_ifl (fun q => absurd q (by decide)) (fun _ => zp2_ifl (fun q => absurd q (by decide)) (fun _ => zp2_ifl (fun _ => zp2_ckl (zp2_ckl (zp2_bvl (fun s1 f1 => zp2_ckl (zp2_bil p_byC (fun s2 v2 e2 => ?_)))))) (fun q => absurd rfl q))))))
    cases e2
    refine zp2_ckl (zp2_bil p_parC (fun s3 v3 e3 => ?_))
    cases e3
    have g1 : zgi s1 36 (0 : Int32).toNatClampNeg = (σ.1 36 0 ^^^ b) := by subst f1; rfl
    rw [g1]
    refine zp2_ckl (zp2_bvl (fun s4 f4 => ?_))
    refine zp2_ifr (fun q => absurd q (by decide)) (fun _ => zp2_ifr (fun q => absurd q (by decide)) (fun _ => zp2_ifr (fun q => absurd q (by decide)) (fun _ => zp2_ifr (fun _ => ?_) (fun q => absurd rfl q))))
    intro r r' er er'
    cases er
    have em := p_logM (μ := μ) (y := 5) (A := (σ.1 36 0 ^^^ b)) (Or.inr (by decide)) _ er'
    have es : s4 = zsi (zsi σ 36 1 (cby (σ.1 36 0 ^^^ b) ||| cpar (σ.1 36 0 ^^^ b))) 36 0 (σ.1 36 0 ^^^ b) := by
      rw [f4, f1]
      exact zsi_comm (by decide)
    have em2 : r' = zsi (zsi μ 3 1 (pt (pt (pt (pt (gby (μ.1 3 1) (σ.1 36 0 ^^^ b)) 4 (if (5 : Int32) = 4 then 1 else 0)) 2 (gev (σ.1 36 0 ^^^ b))) 1 0) 0 0)) 3 0 (σ.1 36 0 ^^^ b) := by
      rw [em]
      exact zsi_comm (by decide)
    refine fin _ _ _ _ rfl ?_ rA ?_ _ _ es em2
    · rw [ef, fl_of hf, fl_by, pt_4, pt_2, pt_1, pt_0]
      refine Eq.trans ?_ ((v_lg rA false).trans ?_)
      · rfl
      · exact Int32.or_zero
    · rw [show cby (σ.1 36 0 ^^^ b) ||| cpar (σ.1 36 0 ^^^ b) = (cby (σ.1 36 0 ^^^ b) ||| cpar (σ.1 36 0 ^^^ b)) ||| (bif false then 16 else 0) from Int32.or_zero.symm, ← v_lg rA false]
      exact zfl_r _ _ _ _ _ _ _ _
  rcases zr_hd (c := 6) hy rfl with e | hy
  · subst e
    have rA : zr 0 255 (σ.1 36 0 ||| b) := z_ob ha hb
    refine zp2_ifl (fun q => absurd q (by decide)) (fun _ => zp2_ifl (fun q => absurd q (by decide)) (fun _ => zp2_ifl (fun q => absurd q (by decide)) (fun _ => zp2_ifl (fun q => absurd q (by decide)) (fun _ => zp2_ifl (fun q => absurd q (by decide)) (fun _ => zp2_ifl (fun q => absurd q (by decide)) (fun _ => zp2_ifl (fun _ => zp2_ckl (zp2_ckl (zp2_bvl (fun s1 f1 => zp2_ckl (zp2_bil p_byC (fun s2 v2 e2 => ?_)))))) (fun q => absurd rfl q)))))))
    cases e2
    refine zp2_ckl (zp2_bil p_parC (fun s3 v3 e3 => ?_))
    cases e3
    have g1 : zgi s1 36 (0 : Int32).toNatClampNeg = (σ.1 36 0 ||| b) := by subst f1; rfl
    rw [g1]
    refine zp2_ckl (zp2_bvl (fun s4 f4 => ?_))
    refine zp2_ifr (fun q => absurd q (by decide)) (fun _ => zp2_ifr (fun q => absurd q (by decide)) (fun _ => zp2_ifr (fun q => absurd q (by decide)) (fun _ => zp2_ifr (fun q => absurd q (by decide)) (fun _ => ?_))))
    intro r r' er er'
    cases er
    have em := p_logM (μ := μ) (y := 6) (A := (σ.1 36 0 ||| b)) (Or.inr (by decide)) _ er'
    have es : s4 = zsi (zsi σ 36 1 (cby (σ.1 36 0 ||| b) ||| cpar (σ.1 36 0 ||| b))) 36 0 (σ.1 36 0 ||| b) := by
      rw [f4, f1]
      exact zsi_comm (by decide)
    have em2 : r' = zsi (zsi μ 3 1 (pt (pt (pt (pt (gby (μ.1 3 1) (σ.1 36 0 ||| b)) 4 (if (6 : Int32) = 4 then 1 else 0)) 2 (gev (σ.1 36 0 ||| b))) 1 0) 0 0)) 3 0 (σ.1 36 0 ||| b) := by
      rw [em]
      exact zsi_comm (by decide)
    refine fin _ _ _ _ rfl ?_ rA ?_ _ _ es em2
    · rw [ef, fl_of hf, fl_by, pt_4, pt_2, pt_1, pt_0]
      refine Eq.trans ?_ ((v_lg rA false).trans ?_)
      · rfl
      · exact Int32.or_zero
    · rw [show cby (σ.1 36 0 ||| b) ||| cpar (σ.1 36 0 ||| b) = (cby (σ.1 36 0 ||| b) ||| cpar (σ.1 36 0 ||| b)) ||| (bif false then 16 else 0) from Int32.or_zero.symm, ← v_lg rA false]
      exact zfl_r _ _ _ _ _ _ _ _
  rcases zr_hd (c := 7) hy rfl with e | hy
  · subst e
    have m : zpc (fX12_does_101 μ 7 b (σ.1 36 0)) (fun r => r = zsi μ 3 1 (gxy (mF (μ.1 3 1) (hS (σ.1 36 0) b 0) (cX ((σ.1 36 0 - b) - 0)) (((σ.1 36 0 - b) - 0) &&& 255) (oX ((sg (σ.1 36 0) - sg b) - 0)) 1) b)) := by
      unfold fX12_does_101 fX12_does_111 fX12_does_120 fX12_does_132
      refine zpc_if (fun q => absurd q (by decide)) (fun _ => zpc_if (fun q => absurd q (by decide)) (fun _ => zpc_if (fun _ => zpc_if (fun _ => p_subM7 rfl) (fun q => absurd rfl q)) (fun q => absurd (by decide) q)))
    have c : zpc (fX5_difference σ (zgi σ 36 (0 : Int32).toNatClampNeg) b 0) (fun r => r = (zsi σ 36 1 (cdif (σ.1 36 0) b 0), ((σ.1 36 0 - b) - 0) &&& 255)) := p_difC
    refine zp2_ifl (fun q => absurd q (by decide)) (fun _ => zp2_ifl (fun q => absurd q (by decide)) (fun _ => zp2_ifl (fun q => absurd q (by decide)) (fun _ => zp2_ifl (fun q => absurd q (by decide)) (fun _ => zp2_ifl (fun q => absurd q (by decide)) (fun _ => zp2_ifl (fun q => absurd q (by decide)) (fun _ => zp2_ifl (fun q => absurd q (by decide)) (fun _ => zp2_ckl (zp2_bil c (fun s1 v1 e1 => ?_)))))))))
    cases e1
    refine zp2_ifr (fun q => absurd q (by decide)) (fun _ => zp2_ifr (fun _ => ?_) (fun q => absurd (by decide) q))
    intro r r' er er'
    have er : some (zsi (zsi σ 36 1 (cdif (σ.1 36 0) b 0)) 36 1 ((cdif (σ.1 36 0) b 0 &&& (-41)) ||| (b &&& 40))) = some r := er
    have em := m _ er'
    cases er
    rw [em, zsi_ow]
    have e : gxy (mF (μ.1 3 1) (hS (σ.1 36 0) b 0) (cX ((σ.1 36 0 - b) - 0)) (((σ.1 36 0 - b) - 0) &&& 255) (oX ((sg (σ.1 36 0) - sg b) - 0)) 1) b = (cdif (σ.1 36 0) b 0 &&& (-41)) ||| (b &&& 40) := by
      rw [ef, fl_mF hf, fl_xy, ← v_dif ha hb c0, v_cp hb]
      rfl
    rw [e]
    refine ⟨h.upd hI [1] (zQ.wi zQ.rf rfl) (zQ.wi zQ.rf rfl) rfl (zAl1 ⟨rfl, zrg_b (Or.inl (by decide)) ?_⟩), rfl, zQ.wi zQ.rf rfl, zQ.wi zQ.rf rfl⟩
    show zr 0 255 ((cdif (σ.1 36 0) b 0 &&& (-41)) ||| (b &&& 40))
    rw [← v_dif ha hb c0, v_cp hb]
    exact zfl_r _ _ _ _ _ _ _ _
  exact zr_no9 hy (by decide)
end ZDO
end ZJN26
section ZJN27
/-! INC AND DEC -/
/-- the end of an instruction, with its beats -/
noncomputable def zEnq (I : zSt → zSt → Prop) (r r' : zSt × Int32) : Prop := zTT I r.1 r'.1 ∧ zF r.1 r'.1 ∧ zWzz r.1 r'.1 ∧ r'.2 = r.2
section ZID
variable {μ σ : zSt} {v w y f : Int32}
noncomputable def cinc (f w : Int32) : Int32 := (((f &&& 1) ||| cby w) ||| (if w &&& 15 = 0 then 16 else 0)) ||| (if w = 128 then 4 else 0)
noncomputable def minc (f w : Int32) : Int32 := pt (pt (pt (gby f w) 4 (if w &&& 15 = 0 then 1 else 0)) 2 (if w = 128 then 1 else 0)) 1 0
theorem p_incC : zpc (fX5_oneMore σ v) (fun r => r = (zsi σ 36 1 (cinc (σ.1 36 1) ((v + 1) &&& 255)), (v + 1) &&& 255)) := by
  unfold fX5_oneMore fX5_oneMore_39 fX5_oneMore_52 cinc
  refine zpc_bv (fun u eu => zpc_ck (zpc_bi p_byC (fun t x et => ?_)))
  cases et
  subst eu
  refine zpc_if (fun q => zpc_if (fun q2 => zpc_ck (zpc_bv (fun t et => zpc_some ?_))) (fun q2 => zpc_ck (zpc_bv (fun t et => zpc_some ?_)))) (fun q => zpc_if (fun q2 => zpc_ck (zpc_bv (fun t et => zpc_some ?_))) (fun q2 => zpc_ck (zpc_bv (fun t et => zpc_some ?_))))
  · rw [et, if_pos q, if_pos q2]; rfl
  · rw [et, if_pos q, if_neg q2]; rfl
  · rw [et, if_neg q, if_pos q2]; rfl
  · rw [et, if_neg q, if_neg q2]; rfl
theorem p_incM : zpc (fX12_singles_84 (zsi μ 3 1 f) y 4 w 0 (w &&& 15) 4) (fun r => r = (zsi μ 3 1 (pt (pt (pt f 4 (if w &&& 15 = 0 then 1 else 0)) 2 (if w = 128 then 1 else 0)) 1 0), if y = 6 then 11 else 4)) := by
  unfold fX12_singles_84
  refine zpc_j (K := fun h => fX12_singles_92 (zsi μ 3 1 f) y 4 w h 4) (a := 1) (b := 0) (fun h eh => ?_)
  unfold fX12_singles_92
  refine zpc_bu p_put (fun t et => ?_)
  subst et
  refine zpc_if (fun _ => ?_) (fun q => absurd rfl q)
  unfold fX12_singles_111
  refine zpc_j (K := fun g => fX12_singles_119 (zsi μ 3 1 (pt f 4 h)) y 4 g 2) (a := 1) (b := 0) (fun g eg => ?_)
  unfold fX12_singles_119
  refine zpc_bu p_put (fun t et => ?_)
  subst et
  refine zpc_if (fun q => absurd q (by decide)) (fun _ => ?_)
  unfold fX12_singles_134 fX12_singles_149
  refine zpc_bu p_put (fun t et => ?_)
  subst et
  refine zpc_if (fun q => zpc_some ?_) (fun q => zpc_some ?_)
  · rw [if_pos q, eh, eg]
  · rw [if_neg q, eh, eg]
theorem v_incf : ∀ i : Fin 256, ∀ c : Fin 2, zfl (d7 (Int32.ofNat i.val)) (d6 (Int32.ofNat i.val)) (d5 (Int32.ofNat i.val)) (bc (if (Int32.ofNat i.val) &&& 15 = 0 then 1 else 0)) (d3 (Int32.ofNat i.val)) (bc (if Int32.ofNat i.val = 128 then 1 else 0)) false (bc (Int32.ofNat c.val)) = (((Int32.ofNat c.val) ||| cby (Int32.ofNat i.val)) ||| (if (Int32.ofNat i.val) &&& 15 = 0 then 16 else 0)) ||| (if Int32.ofNat i.val = 128 then 4 else 0) := by decide +kernel
theorem v_inc (hf : zr 0 255 f) (hw : zr 0 255 w) : minc f w = cinc f w := by
  have e : minc f w = zfl (d7 w) (d6 w) (d5 w) (bc (if w &&& 15 = 0 then 1 else 0)) (d3 w) (bc (if w = 128 then 1 else 0)) false (bc (f &&& 1)) := by
    unfold minc
    rw [fl_of hf, fl_by, pt_4, pt_2, pt_1, ← fl_of hf]
    rfl
  rw [e]
  unfold cinc
  obtain ⟨c, ec⟩ := z_bit1 (z_r1 f)
  obtain ⟨i, ei⟩ := z_byteF hw
  rw [ec]
  subst ei
  exact v_incf i c
theorem r_inc (hf : zr 0 255 f) (hw : zr 0 255 w) : zr 0 255 (cinc f w) := by
  rw [← v_inc hf hw]
  unfold minc
  rw [fl_of hf, fl_by, pt_4, pt_2, pt_1]
  exact zfl_r _ _ _ _ _ _ _ _
noncomputable def cdec (f w : Int32) : Int32 := ((((f &&& 1) ||| cby w) ||| (if w &&& 15 = 15 then 16 else 0)) ||| (if w = 127 then 4 else 0)) ||| 2
noncomputable def mdec (f w : Int32) : Int32 := pt (pt (pt (gby f w) 4 (if w &&& 15 = 15 then 1 else 0)) 2 (if w = 127 then 1 else 0)) 1 1
theorem p_decC : zpc (fX5_oneLess σ v) (fun r => r = (zsi σ 36 1 (cdec (σ.1 36 1) ((v - 1) &&& 255)), (v - 1) &&& 255)) := by
  unfold fX5_oneLess fX5_oneLess_41 fX5_oneLess_53 cdec
  refine zpc_bv (fun u eu => zpc_ck (zpc_bi p_byC (fun t x et => ?_)))
  cases et
  subst eu
  refine zpc_if (fun q => zpc_if (fun q2 => zpc_ck (zpc_bv (fun t et => zpc_some ?_))) (fun q2 => zpc_ck (zpc_bv (fun t et => zpc_some ?_)))) (fun q => zpc_if (fun q2 => zpc_ck (zpc_bv (fun t et => zpc_some ?_))) (fun q2 => zpc_ck (zpc_bv (fun t et => zpc_some ?_))))
  · rw [et, if_pos q, if_pos q2]; rfl
  · rw [et, if_pos q, if_neg q2]; rfl
  · rw [et, if_neg q, if_pos q2]; rfl
  · rw [et, if_neg q, if_neg q2]; rfl
theorem p_decM : zpc (fX12_singles_84 (zsi μ 3 1 f) y 5 w 15 (w &&& 15) 4) (fun r => r = (zsi μ 3 1 (pt (pt (pt f 4 (if w &&& 15 = 15 then 1 else 0)) 2 (if w = 127 then 1 else 0)) 1 1), if y = 6 then 11 else 4)) := by
  unfold fX12_singles_84
  refine zpc_j (K := fun h => fX12_singles_92 (zsi μ 3 1 f) y 5 w h 4) (a := 1) (b := 0) (fun h eh => ?_)
  unfold fX12_singles_92
  refine zpc_bu p_put (fun t et => ?_)
  subst et
  refine zpc_if (fun q => absurd q (by decide)) (fun _ => ?_)
  unfold fX12_singles_111
  refine zpc_j (K := fun g => fX12_singles_119 (zsi μ 3 1 (pt f 4 h)) y 5 g 2) (a := 1) (b := 0) (fun g eg => ?_)
  unfold fX12_singles_119
  refine zpc_bu p_put (fun t et => ?_)
  subst et
  refine zpc_if (fun _ => ?_) (fun q => absurd rfl q)
  unfold fX12_singles_134 fX12_singles_149
  refine zpc_bu p_put (fun t et => ?_)
  subst et
  refine zpc_if (fun q => zpc_some ?_) (fun q => zpc_some ?_)
  · rw [if_pos q, eh, eg]
  · rw [if_neg q, eh, eg]
theorem v_decf : ∀ i : Fin 256, ∀ c : Fin 2, zfl (d7 (Int32.ofNat i.val)) (d6 (Int32.ofNat i.val)) (d5 (Int32.ofNat i.val)) (bc (if (Int32.ofNat i.val) &&& 15 = 15 then 1 else 0)) (d3 (Int32.ofNat i.val)) (bc (if Int32.ofNat i.val = 127 then 1 else 0)) true (bc (Int32.ofNat c.val)) = ((((Int32.ofNat c.val) ||| cby (Int32.ofNat i.val)) ||| (if (Int32.ofNat i.val) &&& 15 = 15 then 16 else 0)) ||| (if Int32.ofNat i.val = 127 then 4 else 0)) ||| 2 := by decide +kernel
theorem v_dec (hf : zr 0 255 f) (hw : zr 0 255 w) : mdec f w = cdec f w := by
  have e : mdec f w = zfl (d7 w) (d6 w) (d5 w) (bc (if w &&& 15 = 15 then 1 else 0)) (d3 w) (bc (if w = 127 then 1 else 0)) true (bc (f &&& 1)) := by
    unfold mdec
    rw [fl_of hf, fl_by, pt_4, pt_2, pt_1, ← fl_of hf]
    rfl
  rw [e]
  unfold cdec
  obtain ⟨c, ec⟩ := z_bit1 (z_r1 f)
  obtain ⟨i, ei⟩ := z_byteF hw
  rw [ec]
  subst ei
  exact v_decf i c
theorem r_dec (hf : zr 0 255 f) (hw : zr 0 255 w) : zr 0 255 (cdec f w) := by
  rw [← v_dec hf hw]
  unfold mdec
  rw [fl_of hf, fl_by, pt_4, pt_2, pt_1]
  exact zfl_r _ _ _ _ _ _ _ _
end ZID
section ZID2
variable {I : zSt → zSt → Prop} {σ μ : zSt}
theorem t_inc (hI : zIoK I) (h : zTT I σ μ) (hF : zF σ μ) (hW : zWzz σ μ) (hp : zPlc σ μ) {y : Int32} (hy : zr 0 7 y) : zp2 (zbi (fX5_one σ y) (fun s v => zbi (fX5_oneMore s v) (fun s2 w => zbu (fX5_putOne s2 y w) (fun s3 => if y = 6 then fX5_firstQuarter_143 s3 11 else fX5_firstQuarter_143 s3 4)))) (fX12_singles μ y 4) (zEnq I) := by
  have hf : zr 0 255 (σ.1 36 1) := h.b (by decide)
  unfold fX12_singles
  refine zp2_ifr (fun q => absurd q (by decide)) (fun _ => zp2_ifr (fun q => absurd q (by decide)) (fun _ => zp2_bii (t_one h hp hy) (fun s v t v' q => ?_)))
  obtain ⟨q1, q2, q3, q4⟩ := q
  have q1 : s = σ := q1
  have q2 : t = μ := q2
  have q3 : v' = v := q3
  subst q1
  subst q2
  subst q3
  refine zp2_ifr (fun _ => ?_) (fun q => absurd rfl q)
  unfold fX12_singles_50
  refine zp2_bil p_incC (fun s2 w2 e2 => zp2_bvr (fun u eu => ?_))
  cases e2
  have eu : u = (v' + 1) &&& 255 := eu
  subst eu
  have hu : zr 0 255 ((v' + 1) &&& 255) := z_r8 _
  generalize (v' + 1) &&& 255 = u at hu
  refine zp2_buu (t_putOne hI (h.onC hI (Or.inl rfl) (zrg_b (Or.inl (by decide)) (r_inc hf hu))) (hp.of rfl rfl rfl rfl rfl) hy (z_m255 hu) hu) (fun s3 t3 q => ?_)
  obtain ⟨a1, a2, a3⟩ := q
  refine zp2_bur p_by' (fun t4 e4 => ?_)
  subst e4
  refine zp2_ifr (fun _ => ?_) (fun q => absurd rfl q)
  unfold fX5_firstQuarter_143
  have fin : ∀ bts : Int32, zEnq I (s3, bts) (zsi t3 3 1 (minc (t3.1 3 1) u), bts) := fun bts => by
    refine ⟨a1.onM hI (Or.inl rfl), ?_, ?_, rfl⟩
    · show minc (t3.1 3 1) u = s3.1 36 1
      rw [a3.1 3 1 rfl, a2.1 36 1 rfl, show t.1 3 1 = s.1 36 1 from hF, v_inc hf hu]
      rfl
    · show t3.1 3 20 = s3.1 36 20
      rw [a3.1 3 20 rfl, a2.1 36 20 rfl]
      exact hW
  intro r r' er er'
  have em := p_incM (μ := t3) (f := gby (t3.1 3 1) u) (y := y) (w := u) _ er'
  by_cases y6 : y = 6
  · rw [if_pos y6] at er em
    cases er
    rw [em]
    exact fin 11
  · rw [if_neg y6] at er em
    cases er
    rw [em]
    exact fin 4
theorem t_dec (hI : zIoK I) (h : zTT I σ μ) (hF : zF σ μ) (hW : zWzz σ μ) (hp : zPlc σ μ) {y : Int32} (hy : zr 0 7 y) : zp2 (zbi (fX5_one σ y) (fun s v => zbi (fX5_oneLess s v) (fun s2 w => zbu (fX5_putOne s2 y w) (fun s3 => if y = 6 then fX5_firstQuarter_170 s3 11 else fX5_firstQuarter_170 s3 4)))) (fX12_singles μ y 5) (zEnq I) := by
  have hf : zr 0 255 (σ.1 36 1) := h.b (by decide)
  unfold fX12_singles
  refine zp2_ifr (fun q => absurd q (by decide)) (fun _ => zp2_ifr (fun q => absurd q (by decide)) (fun _ => zp2_bii (t_one h hp hy) (fun s v t v' q => ?_)))
  obtain ⟨q1, q2, q3, q4⟩ := q
  have q1 : s = σ := q1
  have q2 : t = μ := q2
  have q3 : v' = v := q3
  subst q1
  subst q2
  subst q3
  refine zp2_ifr (fun q => absurd q (by decide)) (fun _ => ?_)
  unfold fX12_singles_50
  refine zp2_bil p_decC (fun s2 w2 e2 => zp2_bvr (fun u eu => ?_))
  cases e2
  have eu : u = (v' - 1) &&& 255 := by rw [eu, Int32.sub_eq_add_neg]
  subst eu
  have hu : zr 0 255 ((v' - 1) &&& 255) := z_r8 _
  generalize (v' - 1) &&& 255 = u at hu
  refine zp2_buu (t_putOne hI (h.onC hI (Or.inl rfl) (zrg_b (Or.inl (by decide)) (r_dec hf hu))) (hp.of rfl rfl rfl rfl rfl) hy (z_m255 hu) hu) (fun s3 t3 q => ?_)
  obtain ⟨a1, a2, a3⟩ := q
  refine zp2_bur p_by' (fun t4 e4 => ?_)
  subst e4
  refine zp2_ifr (fun q => absurd q (by decide)) (fun _ => ?_)
  unfold fX5_firstQuarter_170
  have fin : ∀ bts : Int32, zEnq I (s3, bts) (zsi t3 3 1 (mdec (t3.1 3 1) u), bts) := fun bts => by
    refine ⟨a1.onM hI (Or.inl rfl), ?_, ?_, rfl⟩
    · show mdec (t3.1 3 1) u = s3.1 36 1
      rw [a3.1 3 1 rfl, a2.1 36 1 rfl, show t.1 3 1 = s.1 36 1 from hF, v_dec hf hu]
      rfl
    · show t3.1 3 20 = s3.1 36 20
      rw [a3.1 3 20 rfl, a2.1 36 20 rfl]
      exact hW
  intro r r' er er'
  have em := p_decM (μ := t3) (f := gby (t3.1 3 1) u) (y := y) (w := u) _ er'
  by_cases y6 : y = 6
  · rw [if_pos y6] at er em
    cases er
    rw [em]
    exact fin 11
  · rw [if_neg y6] at er em
    cases er
    rw [em]
    exact fin 4
end ZID2
/-! TURNING -/
noncomputable def crot (w o : Int32) : Int32 := (cby w ||| cpar w) ||| o
section ZRT
variable {μ σ : zSt} {v : Int32}
theorem p_rotC0 : zpc (fX5_turn σ 0 v) (fun r => r = (zsi σ 36 1 (crot (((v <<< ((1 : Int32) &&& 31)) &&& 255) ||| (v >>> ((7 : Int32) &&& 31))) (v >>> ((7 : Int32) &&& 31))), ((v <<< ((1 : Int32) &&& 31)) &&& 255) ||| (v >>> ((7 : Int32) &&& 31)))) := by
  have f136 : ∀ (g w : Int32), zpc (fX5_turn_136 σ g w) (fun r => r = (zsi σ 36 1 (crot w g), w)) := fun g w => by
    unfold fX5_turn_136 crot
    refine zpc_bi p_byC (fun t x et => ?_)
    cases et
    refine zpc_bi p_parC (fun t x et => ?_)
    cases et
    exact zpc_ck (zpc_bv (fun t et => zpc_some (by rw [et]; rfl)))
  unfold fX5_turn fX5_turn_11 fX5_turn_26 fX5_turn_72 fX5_turn_79 fX5_turn_107 fX5_turn_110
  refine zpc_if (fun _ => zpc_if (fun q => absurd q (by decide)) (fun _ => ?_)) (fun q => absurd (by decide) q)
  exact zpc_if (fun _ => zpc_if (fun q => absurd q (by decide)) (fun _ => f136 _ _)) (fun q => absurd rfl q)
theorem p_rotM0 : zpc (fX12_turned μ 0 v) (fun r => r = (zsi μ 3 1 (pt (μ.1 3 1) 0 (if v >>> ((7 : Int32) &&& 31) = 1 then 1 else 0)), ((v <<< ((1 : Int32) &&& 31)) &&& 255) ||| (v >>> ((7 : Int32) &&& 31)))) := by
  have f74 : ∀ (g c : Int32), zpc (fX12_turned_74 μ v 1 g c) (fun r => r = (zsi μ 3 1 (pt (μ.1 3 1) 0 (if g = 1 then 1 else 0)), ((v <<< ((1 : Int32) &&& 31)) &&& 255) ||| c)) := fun g c => by
    unfold fX12_turned_74
    refine zpc_j (K := fun u => fX12_turned_89 μ v 1 c u 0) (a := 1) (b := 0) (fun u eu => ?_)
    unfold fX12_turned_89 fX12_turned_118
    refine zpc_bu p_put' (fun t et => ?_)
    rw [et, eu]
    exact zpc_if (fun q => absurd q (by decide)) (fun _ => zpc_some rfl)
  unfold fX12_turned fX12_turned_11 fX12_turned_26
  refine zpc_ck (zpc_if (fun _ => zpc_if (fun q => absurd q (by decide)) (fun _ => ?_)) (fun q => absurd (by decide) q))
  exact zpc_if (fun q => absurd q (by decide)) (fun _ => f74 _ _)
theorem p_rotC1 : zpc (fX5_turn σ 1 v) (fun r => r = (zsi σ 36 1 (crot ((v >>> ((1 : Int32) &&& 31)) ||| ((v &&& 1) <<< ((7 : Int32) &&& 31))) (v &&& 1)), (v >>> ((1 : Int32) &&& 31)) ||| ((v &&& 1) <<< ((7 : Int32) &&& 31)))) := by
  have f136 : ∀ (g w : Int32), zpc (fX5_turn_136 σ g w) (fun r => r = (zsi σ 36 1 (crot w g), w)) := fun g w => by
    unfold fX5_turn_136 crot
    refine zpc_bi p_byC (fun t x et => ?_)
    cases et
    refine zpc_bi p_parC (fun t x et => ?_)
    cases et
    exact zpc_ck (zpc_bv (fun t et => zpc_some (by rw [et]; rfl)))
  unfold fX5_turn fX5_turn_11 fX5_turn_26 fX5_turn_72 fX5_turn_79 fX5_turn_107 fX5_turn_110
  refine zpc_if (fun q => absurd q (by decide)) (fun _ => zpc_if (fun _ => ?_) (fun q => absurd rfl q))
  exact zpc_if (fun q => absurd q (by decide)) (fun _ => zpc_if (fun _ => zpc_if (fun _ => f136 _ _) (fun q => absurd rfl q)) (fun q => absurd rfl q))
theorem p_rotM1 : zpc (fX12_turned μ 1 v) (fun r => r = (zsi μ 3 1 (pt (μ.1 3 1) 0 (if v &&& 1 = 1 then 1 else 0)), (v >>> ((1 : Int32) &&& 31)) ||| ((v &&& 1) <<< ((7 : Int32) &&& 31)))) := by
  have f74 : ∀ (g c : Int32), zpc (fX12_turned_74 μ v 0 g c) (fun r => r = (zsi μ 3 1 (pt (μ.1 3 1) 0 (if g = 1 then 1 else 0)), (v >>> ((1 : Int32) &&& 31)) ||| (c <<< ((7 : Int32) &&& 31)))) := fun g c => by
    unfold fX12_turned_74
    refine zpc_j (K := fun u => fX12_turned_89 μ v 0 c u 0) (a := 1) (b := 0) (fun u eu => ?_)
    unfold fX12_turned_89 fX12_turned_118
    refine zpc_bu p_put' (fun t et => ?_)
    rw [et, eu]
    exact zpc_if (fun _ => zpc_some rfl) (fun q => absurd rfl q)
  unfold fX12_turned fX12_turned_11 fX12_turned_26
  refine zpc_ck (zpc_if (fun q => absurd q (by decide)) (fun _ => zpc_if (fun _ => ?_) (fun q => absurd rfl q)))
  exact zpc_if (fun q => absurd q (by decide)) (fun _ => f74 _ _)
theorem p_rotC2 : zpc (fX5_turn σ 2 v) (fun r => r = (zsi σ 36 1 (crot (((v <<< ((1 : Int32) &&& 31)) &&& 255) ||| (σ.1 36 1 &&& 1)) (v >>> ((7 : Int32) &&& 31))), ((v <<< ((1 : Int32) &&& 31)) &&& 255) ||| (σ.1 36 1 &&& 1))) := by
  have f136 : ∀ (g w : Int32), zpc (fX5_turn_136 σ g w) (fun r => r = (zsi σ 36 1 (crot w g), w)) := fun g w => by
    unfold fX5_turn_136 crot
    refine zpc_bi p_byC (fun t x et => ?_)
    cases et
    refine zpc_bi p_parC (fun t x et => ?_)
    cases et
    exact zpc_ck (zpc_bv (fun t et => zpc_some (by rw [et]; rfl)))
  unfold fX5_turn fX5_turn_11 fX5_turn_26 fX5_turn_72 fX5_turn_79 fX5_turn_107 fX5_turn_110
  refine zpc_if (fun _ => zpc_if (fun q => absurd q (by decide)) (fun _ => ?_)) (fun q => absurd (by decide) q)
  exact zpc_if (fun q => absurd q (by decide)) (fun _ => zpc_if (fun q => absurd q (by decide)) (fun _ => zpc_if (fun _ => zpc_ck (zpc_bv (fun u eu => by subst eu; exact zpc_if (fun q => absurd q (by decide)) (fun _ => f136 _ _)))) (fun q => absurd rfl q)))
theorem p_rotM2 : zpc (fX12_turned μ 2 v) (fun r => r = (zsi μ 3 1 (pt (μ.1 3 1) 0 (if v >>> ((7 : Int32) &&& 31) = 1 then 1 else 0)), ((v <<< ((1 : Int32) &&& 31)) &&& 255) ||| ((μ.1 3 1 >>> ((0 : Int32) &&& 31)) &&& 1))) := by
  have f74 : ∀ (g c : Int32), zpc (fX12_turned_74 μ v 1 g c) (fun r => r = (zsi μ 3 1 (pt (μ.1 3 1) 0 (if g = 1 then 1 else 0)), ((v <<< ((1 : Int32) &&& 31)) &&& 255) ||| c)) := fun g c => by
    unfold fX12_turned_74
    refine zpc_j (K := fun u => fX12_turned_89 μ v 1 c u 0) (a := 1) (b := 0) (fun u eu => ?_)
    unfold fX12_turned_89 fX12_turned_118
    refine zpc_bu p_put' (fun t et => ?_)
    rw [et, eu]
    exact zpc_if (fun q => absurd q (by decide)) (fun _ => zpc_some rfl)
  unfold fX12_turned fX12_turned_11 fX12_turned_26
  refine zpc_ck (zpc_if (fun _ => zpc_if (fun q => absurd q (by decide)) (fun _ => ?_)) (fun q => absurd (by decide) q))
  refine zpc_if (fun _ => zpc_if (fun q => absurd q (by decide)) (fun _ => zpc_bi p_flag (fun t u et => ?_))) (fun q => absurd (by decide) q)
  cases et
  exact f74 _ _
theorem p_rotC3 : zpc (fX5_turn σ 3 v) (fun r => r = (zsi σ 36 1 (crot ((v >>> ((1 : Int32) &&& 31)) ||| ((σ.1 36 1 &&& 1) <<< ((7 : Int32) &&& 31))) (v &&& 1)), (v >>> ((1 : Int32) &&& 31)) ||| ((σ.1 36 1 &&& 1) <<< ((7 : Int32) &&& 31)))) := by
  have f136 : ∀ (g w : Int32), zpc (fX5_turn_136 σ g w) (fun r => r = (zsi σ 36 1 (crot w g), w)) := fun g w => by
    unfold fX5_turn_136 crot
    refine zpc_bi p_byC (fun t x et => ?_)
    cases et
    refine zpc_bi p_parC (fun t x et => ?_)
    cases et
    exact zpc_ck (zpc_bv (fun t et => zpc_some (by rw [et]; rfl)))
  unfold fX5_turn fX5_turn_11 fX5_turn_26 fX5_turn_72 fX5_turn_79 fX5_turn_107 fX5_turn_110
  refine zpc_if (fun q => absurd q (by decide)) (fun _ => zpc_if (fun _ => ?_) (fun q => absurd rfl q))
  exact zpc_if (fun q => absurd q (by decide)) (fun _ => zpc_if (fun q => absurd q (by decide)) (fun _ => zpc_if (fun q => absurd q (by decide)) (fun _ => zpc_if (fun _ => zpc_ck (zpc_bv (fun u eu => by subst eu; exact zpc_if (fun _ => f136 _ _) (fun q => absurd rfl q)))) (fun q => absurd rfl q))))
theorem p_rotM3 : zpc (fX12_turned μ 3 v) (fun r => r = (zsi μ 3 1 (pt (μ.1 3 1) 0 (if v &&& 1 = 1 then 1 else 0)), (v >>> ((1 : Int32) &&& 31)) ||| (((μ.1 3 1 >>> ((0 : Int32) &&& 31)) &&& 1) <<< ((7 : Int32) &&& 31)))) := by
  have f74 : ∀ (g c : Int32), zpc (fX12_turned_74 μ v 0 g c) (fun r => r = (zsi μ 3 1 (pt (μ.1 3 1) 0 (if g = 1 then 1 else 0)), (v >>> ((1 : Int32) &&& 31)) ||| (c <<< ((7 : Int32) &&& 31)))) := fun g c => by
    unfold fX12_turned_74
    refine zpc_j (K := fun u => fX12_turned_89 μ v 0 c u 0) (a := 1) (b := 0) (fun u eu => ?_)
    unfold fX12_turned_89 fX12_turned_118
    refine zpc_bu p_put' (fun t et => ?_)
    rw [et, eu]
    exact zpc_if (fun _ => zpc_some rfl) (fun q => absurd rfl q)
  unfold fX12_turned fX12_turned_11 fX12_turned_26
  refine zpc_ck (zpc_if (fun q => absurd q (by decide)) (fun _ => zpc_if (fun _ => ?_) (fun q => absurd rfl q)))
  refine zpc_if (fun _ => zpc_if (fun q => absurd q (by decide)) (fun _ => zpc_bi p_flag (fun t u et => ?_))) (fun q => absurd (by decide) q)
  cases et
  exact f74 _ _
theorem p_rotC4 : zpc (fX5_turn σ 4 v) (fun r => r = (zsi σ 36 1 (crot (((v <<< ((1 : Int32) &&& 31)) &&& 255) ||| 0) (v >>> ((7 : Int32) &&& 31))), ((v <<< ((1 : Int32) &&& 31)) &&& 255) ||| 0)) := by
  have f136 : ∀ (g w : Int32), zpc (fX5_turn_136 σ g w) (fun r => r = (zsi σ 36 1 (crot w g), w)) := fun g w => by
    unfold fX5_turn_136 crot
    refine zpc_bi p_byC (fun t x et => ?_)
    cases et
    refine zpc_bi p_parC (fun t x et => ?_)
    cases et
    exact zpc_ck (zpc_bv (fun t et => zpc_some (by rw [et]; rfl)))
  unfold fX5_turn fX5_turn_11 fX5_turn_26 fX5_turn_72 fX5_turn_79 fX5_turn_107 fX5_turn_110
  refine zpc_if (fun _ => zpc_if (fun q => absurd q (by decide)) (fun _ => ?_)) (fun q => absurd (by decide) q)
  exact zpc_if (fun q => absurd q (by decide)) (fun _ => zpc_if (fun q => absurd q (by decide)) (fun _ => zpc_if (fun q => absurd q (by decide)) (fun _ => zpc_if (fun q => absurd q (by decide)) (fun _ => zpc_if (fun _ => zpc_if (fun q => absurd q (by decide)) (fun _ => f136 _ _)) (fun q => absurd rfl q)))))
theorem p_rotM4 : zpc (fX12_turned μ 4 v) (fun r => r = (zsi μ 3 1 (pt (μ.1 3 1) 0 (if v >>> ((7 : Int32) &&& 31) = 1 then 1 else 0)), ((v <<< ((1 : Int32) &&& 31)) &&& 255) ||| 0)) := by
  have f74 : ∀ (g c : Int32), zpc (fX12_turned_74 μ v 1 g c) (fun r => r = (zsi μ 3 1 (pt (μ.1 3 1) 0 (if g = 1 then 1 else 0)), ((v <<< ((1 : Int32) &&& 31)) &&& 255) ||| c)) := fun g c => by
    unfold fX12_turned_74
    refine zpc_j (K := fun u => fX12_turned_89 μ v 1 c u 0) (a := 1) (b := 0) (fun u eu => ?_)
    unfold fX12_turned_89 fX12_turned_118
    refine zpc_bu p_put' (fun t et => ?_)
    rw [et, eu]
    exact zpc_if (fun q => absurd q (by decide)) (fun _ => zpc_some rfl)
  unfold fX12_turned fX12_turned_11 fX12_turned_26
  refine zpc_ck (zpc_if (fun _ => zpc_if (fun q => absurd q (by decide)) (fun _ => ?_)) (fun q => absurd (by decide) q))
  exact zpc_if (fun _ => zpc_if (fun _ => zpc_if (fun q => absurd q (by decide)) (fun _ => zpc_if (fun q => absurd q (by decide)) (fun _ => f74 _ _))) (fun q => absurd (by decide) q)) (fun q => absurd (by decide) q)
theorem p_rotC5 : zpc (fX5_turn σ 5 v) (fun r => r = (zsi σ 36 1 (crot ((v >>> ((1 : Int32) &&& 31)) ||| ((v >>> ((7 : Int32) &&& 31)) <<< ((7 : Int32) &&& 31))) (v &&& 1)), (v >>> ((1 : Int32) &&& 31)) ||| ((v >>> ((7 : Int32) &&& 31)) <<< ((7 : Int32) &&& 31)))) := by
  have f136 : ∀ (g w : Int32), zpc (fX5_turn_136 σ g w) (fun r => r = (zsi σ 36 1 (crot w g), w)) := fun g w => by
    unfold fX5_turn_136 crot
    refine zpc_bi p_byC (fun t x et => ?_)
    cases et
    refine zpc_bi p_parC (fun t x et => ?_)
    cases et
    exact zpc_ck (zpc_bv (fun t et => zpc_some (by rw [et]; rfl)))
  unfold fX5_turn fX5_turn_11 fX5_turn_26 fX5_turn_72 fX5_turn_79 fX5_turn_107 fX5_turn_110
  refine zpc_if (fun q => absurd q (by decide)) (fun _ => zpc_if (fun _ => ?_) (fun q => absurd rfl q))
  exact zpc_if (fun q => absurd q (by decide)) (fun _ => zpc_if (fun q => absurd q (by decide)) (fun _ => zpc_if (fun q => absurd q (by decide)) (fun _ => zpc_if (fun q => absurd q (by decide)) (fun _ => zpc_if (fun q => absurd q (by decide)) (fun _ => zpc_if (fun _ => zpc_bv (fun u eu => by subst eu; exact zpc_if (fun _ => f136 _ _) (fun q => absurd rfl q))) (fun q => absurd rfl q))))))
theorem p_rotM5 : zpc (fX12_turned μ 5 v) (fun r => r = (zsi μ 3 1 (pt (μ.1 3 1) 0 (if v &&& 1 = 1 then 1 else 0)), (v >>> ((1 : Int32) &&& 31)) ||| ((v >>> ((7 : Int32) &&& 31)) <<< ((7 : Int32) &&& 31)))) := by
  have f74 : ∀ (g c : Int32), zpc (fX12_turned_74 μ v 0 g c) (fun r => r = (zsi μ 3 1 (pt (μ.1 3 1) 0 (if g = 1 then 1 else 0)), (v >>> ((1 : Int32) &&& 31)) ||| (c <<< ((7 : Int32) &&& 31)))) := fun g c => by
    unfold fX12_turned_74
    refine zpc_j (K := fun u => fX12_turned_89 μ v 0 c u 0) (a := 1) (b := 0) (fun u eu => ?_)
    unfold fX12_turned_89 fX12_turned_118
    refine zpc_bu p_put' (fun t et => ?_)
    rw [et, eu]
    exact zpc_if (fun _ => zpc_some rfl) (fun q => absurd rfl q)
  unfold fX12_turned fX12_turned_11 fX12_turned_26
  refine zpc_ck (zpc_if (fun q => absurd q (by decide)) (fun _ => zpc_if (fun _ => ?_) (fun q => absurd rfl q)))
  exact zpc_if (fun _ => zpc_if (fun _ => zpc_if (fun _ => f74 _ _) (fun q => absurd rfl q)) (fun q => absurd (by decide) q)) (fun q => absurd (by decide) q)
theorem p_rotC6 : zpc (fX5_turn σ 6 v) (fun r => r = (zsi σ 36 1 (crot (((v <<< ((1 : Int32) &&& 31)) &&& 255) ||| 1) (v >>> ((7 : Int32) &&& 31))), ((v <<< ((1 : Int32) &&& 31)) &&& 255) ||| 1)) := by
  have f136 : ∀ (g w : Int32), zpc (fX5_turn_136 σ g w) (fun r => r = (zsi σ 36 1 (crot w g), w)) := fun g w => by
    unfold fX5_turn_136 crot
    refine zpc_bi p_byC (fun t x et => ?_)
    cases et
    refine zpc_bi p_parC (fun t x et => ?_)
    cases et
    exact zpc_ck (zpc_bv (fun t et => zpc_some (by rw [et]; rfl)))
  unfold fX5_turn fX5_turn_11 fX5_turn_26 fX5_turn_72 fX5_turn_79 fX5_turn_107 fX5_turn_110
  refine zpc_if (fun _ => zpc_if (fun q => absurd q (by decide)) (fun _ => ?_)) (fun q => absurd (by decide) q)
  exact zpc_if (fun q => absurd q (by decide)) (fun _ => zpc_if (fun q => absurd q (by decide)) (fun _ => zpc_if (fun q => absurd q (by decide)) (fun _ => zpc_if (fun q => absurd q (by decide)) (fun _ => zpc_if (fun q => absurd q (by decide)) (fun _ => zpc_if (fun q => absurd q (by decide)) (fun _ => zpc_if (fun _ => zpc_if (fun q => absurd q (by decide)) (fun _ => f136 _ _)) (fun q => absurd rfl q)))))))
theorem p_rotM6 : zpc (fX12_turned μ 6 v) (fun r => r = (zsi μ 3 1 (pt (μ.1 3 1) 0 (if v >>> ((7 : Int32) &&& 31) = 1 then 1 else 0)), ((v <<< ((1 : Int32) &&& 31)) &&& 255) ||| 1)) := by
  have f74 : ∀ (g c : Int32), zpc (fX12_turned_74 μ v 1 g c) (fun r => r = (zsi μ 3 1 (pt (μ.1 3 1) 0 (if g = 1 then 1 else 0)), ((v <<< ((1 : Int32) &&& 31)) &&& 255) ||| c)) := fun g c => by
    unfold fX12_turned_74
    refine zpc_j (K := fun u => fX12_turned_89 μ v 1 c u 0) (a := 1) (b := 0) (fun u eu => ?_)
    unfold fX12_turned_89 fX12_turned_118
    refine zpc_bu p_put' (fun t et => ?_)
    rw [et, eu]
    exact zpc_if (fun q => absurd q (by decide)) (fun _ => zpc_some rfl)
  unfold fX12_turned fX12_turned_11 fX12_turned_26
  refine zpc_ck (zpc_if (fun _ => zpc_if (fun q => absurd q (by decide)) (fun _ => ?_)) (fun q => absurd (by decide) q))
  exact zpc_if (fun _ => zpc_if (fun _ => zpc_if (fun q => absurd q (by decide)) (fun _ => zpc_if (fun _ => f74 _ _) (fun q => absurd rfl q))) (fun q => absurd (by decide) q)) (fun q => absurd (by decide) q)
theorem p_rotC7 : zpc (fX5_turn σ 7 v) (fun r => r = (zsi σ 36 1 (crot ((v >>> ((1 : Int32) &&& 31)) ||| (0 <<< ((7 : Int32) &&& 31))) (v &&& 1)), (v >>> ((1 : Int32) &&& 31)) ||| (0 <<< ((7 : Int32) &&& 31)))) := by
  have f136 : ∀ (g w : Int32), zpc (fX5_turn_136 σ g w) (fun r => r = (zsi σ 36 1 (crot w g), w)) := fun g w => by
    unfold fX5_turn_136 crot
    refine zpc_bi p_byC (fun t x et => ?_)
    cases et
    refine zpc_bi p_parC (fun t x et => ?_)
    cases et
    exact zpc_ck (zpc_bv (fun t et => zpc_some (by rw [et]; rfl)))
  unfold fX5_turn fX5_turn_11 fX5_turn_26 fX5_turn_72 fX5_turn_79 fX5_turn_107 fX5_turn_110
  refine zpc_if (fun q => absurd q (by decide)) (fun _ => zpc_if (fun _ => ?_) (fun q => absurd rfl q))
  exact zpc_if (fun q => absurd q (by decide)) (fun _ => zpc_if (fun q => absurd q (by decide)) (fun _ => zpc_if (fun q => absurd q (by decide)) (fun _ => zpc_if (fun q => absurd q (by decide)) (fun _ => zpc_if (fun q => absurd q (by decide)) (fun _ => zpc_if (fun q => absurd q (by decide)) (fun _ => zpc_if (fun q => absurd q (by decide)) (fun _ => zpc_if (fun _ => f136 _ _) (fun q => absurd rfl q))))))))
theorem p_rotM7 : zpc (fX12_turned μ 7 v) (fun r => r = (zsi μ 3 1 (pt (μ.1 3 1) 0 (if v &&& 1 = 1 then 1 else 0)), (v >>> ((1 : Int32) &&& 31)) ||| (0 <<< ((7 : Int32) &&& 31)))) := by
  have f74 : ∀ (g c : Int32), zpc (fX12_turned_74 μ v 0 g c) (fun r => r = (zsi μ 3 1 (pt (μ.1 3 1) 0 (if g = 1 then 1 else 0)), (v >>> ((1 : Int32) &&& 31)) ||| (c <<< ((7 : Int32) &&& 31)))) := fun g c => by
    unfold fX12_turned_74
    refine zpc_j (K := fun u => fX12_turned_89 μ v 0 c u 0) (a := 1) (b := 0) (fun u eu => ?_)
    unfold fX12_turned_89 fX12_turned_118
    refine zpc_bu p_put' (fun t et => ?_)
    rw [et, eu]
    exact zpc_if (fun _ => zpc_some rfl) (fun q => absurd rfl q)
  unfold fX12_turned fX12_turned_11 fX12_turned_26
  refine zpc_ck (zpc_if (fun q => absurd q (by decide)) (fun _ => zpc_if (fun _ => ?_) (fun q => absurd rfl q)))
  exact zpc_if (fun _ => zpc_if (fun _ => zpc_if (fun q => absurd q (by decide)) (fun _ => zpc_if (fun q => absurd q (by decide)) (fun _ => f74 _ _))) (fun q => absurd (by decide) q)) (fun q => absurd (by decide) q)
end ZRT
theorem v_rotf0 : ∀ i : Fin 256, ∀ c : Fin 2, (0 ≤ ((((Int32.ofNat i.val) <<< ((1 : Int32) &&& 31)) &&& 255) ||| ((Int32.ofNat i.val) >>> ((7 : Int32) &&& 31))).toInt ∧ ((((Int32.ofNat i.val) <<< ((1 : Int32) &&& 31)) &&& 255) ||| ((Int32.ofNat i.val) >>> ((7 : Int32) &&& 31))).toInt ≤ 255) ∧ (0 ≤ ((Int32.ofNat i.val) >>> ((7 : Int32) &&& 31)).toInt ∧ ((Int32.ofNat i.val) >>> ((7 : Int32) &&& 31)).toInt ≤ 1) := by decide +kernel
theorem v_rotf1 : ∀ i : Fin 256, ∀ c : Fin 2, (0 ≤ (((Int32.ofNat i.val) >>> ((1 : Int32) &&& 31)) ||| (((Int32.ofNat i.val) &&& 1) <<< ((7 : Int32) &&& 31))).toInt ∧ (((Int32.ofNat i.val) >>> ((1 : Int32) &&& 31)) ||| (((Int32.ofNat i.val) &&& 1) <<< ((7 : Int32) &&& 31))).toInt ≤ 255) ∧ (0 ≤ ((Int32.ofNat i.val) &&& 1).toInt ∧ ((Int32.ofNat i.val) &&& 1).toInt ≤ 1) := by decide +kernel
theorem v_rotf2 : ∀ i : Fin 256, ∀ c : Fin 2, (0 ≤ ((((Int32.ofNat i.val) <<< ((1 : Int32) &&& 31)) &&& 255) ||| (Int32.ofNat c.val)).toInt ∧ ((((Int32.ofNat i.val) <<< ((1 : Int32) &&& 31)) &&& 255) ||| (Int32.ofNat c.val)).toInt ≤ 255) ∧ (0 ≤ ((Int32.ofNat i.val) >>> ((7 : Int32) &&& 31)).toInt ∧ ((Int32.ofNat i.val) >>> ((7 : Int32) &&& 31)).toInt ≤ 1) := by decide +kernel
theorem v_rotf3 : ∀ i : Fin 256, ∀ c : Fin 2, (0 ≤ (((Int32.ofNat i.val) >>> ((1 : Int32) &&& 31)) ||| ((Int32.ofNat c.val) <<< ((7 : Int32) &&& 31))).toInt ∧ (((Int32.ofNat i.val) >>> ((1 : Int32) &&& 31)) ||| ((Int32.ofNat c.val) <<< ((7 : Int32) &&& 31))).toInt ≤ 255) ∧ (0 ≤ ((Int32.ofNat i.val) &&& 1).toInt ∧ ((Int32.ofNat i.val) &&& 1).toInt ≤ 1) := by decide +kernel
theorem v_rotf4 : ∀ i : Fin 256, ∀ c : Fin 2, (0 ≤ ((((Int32.ofNat i.val) <<< ((1 : Int32) &&& 31)) &&& 255) ||| 0).toInt ∧ ((((Int32.ofNat i.val) <<< ((1 : Int32) &&& 31)) &&& 255) ||| 0).toInt ≤ 255) ∧ (0 ≤ ((Int32.ofNat i.val) >>> ((7 : Int32) &&& 31)).toInt ∧ ((Int32.ofNat i.val) >>> ((7 : Int32) &&& 31)).toInt ≤ 1) := by decide +kernel
theorem v_rotf5 : ∀ i : Fin 256, ∀ c : Fin 2, (0 ≤ (((Int32.ofNat i.val) >>> ((1 : Int32) &&& 31)) ||| (((Int32.ofNat i.val) >>> ((7 : Int32) &&& 31)) <<< ((7 : Int32) &&& 31))).toInt ∧ (((Int32.ofNat i.val) >>> ((1 : Int32) &&& 31)) ||| (((Int32.ofNat i.val) >>> ((7 : Int32) &&& 31)) <<< ((7 : Int32) &&& 31))).toInt ≤ 255) ∧ (0 ≤ ((Int32.ofNat i.val) &&& 1).toInt ∧ ((Int32.ofNat i.val) &&& 1).toInt ≤ 1) := by decide +kernel
theorem v_rotf6 : ∀ i : Fin 256, ∀ c : Fin 2, (0 ≤ ((((Int32.ofNat i.val) <<< ((1 : Int32) &&& 31)) &&& 255) ||| 1).toInt ∧ ((((Int32.ofNat i.val) <<< ((1 : Int32) &&& 31)) &&& 255) ||| 1).toInt ≤ 255) ∧ (0 ≤ ((Int32.ofNat i.val) >>> ((7 : Int32) &&& 31)).toInt ∧ ((Int32.ofNat i.val) >>> ((7 : Int32) &&& 31)).toInt ≤ 1) := by decide +kernel
theorem v_rotf7 : ∀ i : Fin 256, ∀ c : Fin 2, (0 ≤ (((Int32.ofNat i.val) >>> ((1 : Int32) &&& 31)) ||| (0 <<< ((7 : Int32) &&& 31))).toInt ∧ (((Int32.ofNat i.val) >>> ((1 : Int32) &&& 31)) ||| (0 <<< ((7 : Int32) &&& 31))).toInt ≤ 255) ∧ (0 ≤ ((Int32.ofNat i.val) &&& 1).toInt ∧ ((Int32.ofNat i.val) &&& 1).toInt ≤ 1) := by decide +kernel
theorem v_rtf : ∀ i : Fin 256, ∀ k : Fin 2, zfl (d7 (Int32.ofNat i.val)) (d6 (Int32.ofNat i.val)) (d5 (Int32.ofNat i.val)) false (d3 (Int32.ofNat i.val)) (bc (gev (Int32.ofNat i.val))) false (bc (if Int32.ofNat k.val = 1 then 1 else 0)) = crot (Int32.ofNat i.val) (Int32.ofNat k.val) := by decide +kernel
theorem v_rt {w g : Int32} (hw : zr 0 255 w) (hg : zr 0 1 g) : zfl (d7 w) (d6 w) (d5 w) false (d3 w) (bc (gev w)) false (bc (if g = 1 then 1 else 0)) = crot w g := by
  obtain ⟨i, ei⟩ := z_byteF hw
  obtain ⟨k, ek⟩ := z_bit1 hg
  subst ei
  subst ek
  exact v_rtf i k
theorem v_r41 : ∀ i : Fin 256, ∀ k : Fin 2, crot (Int32.ofNat i.val) (Int32.ofNat k.val) &&& 41 = ((bif d5 (Int32.ofNat i.val) then 32 else 0) ||| (bif d3 (Int32.ofNat i.val) then 8 else 0)) ||| (bif bc (if Int32.ofNat k.val = 1 then 1 else 0) then 1 else 0) := by decide +kernel
theorem v_196 : ∀ i : Fin 256, Int32.ofNat i.val &&& 196 = ((bif decide (¬ Int32.ofNat i.val &&& 128 = 0) then 128 else 0) ||| (bif decide (¬ Int32.ofNat i.val &&& 64 = 0) then 64 else 0)) ||| (bif decide (¬ Int32.ofNat i.val &&& 4 = 0) then 4 else 0) := by decide +kernel
theorem v_acB : ∀ b7 b6 b5 b3 b2 b0 : Bool, zfl b7 b6 b5 false b3 b2 false b0 = (((bif b7 then 128 else 0) ||| (bif b6 then 64 else 0)) ||| (bif b2 then 4 else 0)) ||| (((bif b5 then 32 else 0) ||| (bif b3 then 8 else 0)) ||| (bif b0 then 1 else 0)) := by decide
/-- the flags behind RLCA and its like -/
theorem v_ac {f w g : Int32} (hf : zr 0 255 f) (hw : zr 0 255 w) (hg : zr 0 1 g) : pt (pt (gxy (pt f 0 (if g = 1 then 1 else 0)) w) 4 0) 1 0 = (f &&& 196) ||| (crot w g &&& 41) := by
  have e : pt (pt (gxy (pt f 0 (if g = 1 then 1 else 0)) w) 4 0) 1 0 = zfl (decide (¬ f &&& 128 = 0)) (decide (¬ f &&& 64 = 0)) (d5 w) false (d3 w) (decide (¬ f &&& 4 = 0)) false (bc (if g = 1 then 1 else 0)) := by
    rw [fl_of hf, pt_0, fl_xy, pt_4, pt_1, ← fl_of hf]
    rfl
  rw [e, v_acB]
  obtain ⟨i, ei⟩ := z_byteF hw
  obtain ⟨k, ek⟩ := z_bit1 hg
  obtain ⟨l, el⟩ := z_byteF hf
  subst ei
  subst ek
  subst el
  rw [v_r41 i k, v_196 l]
end ZJN27
section ZJN28
/-! CONDITIONS -/
theorem v_b0 : ∀ i : Fin 256, ((Int32.ofNat i.val) >>> ((0 : Int32) &&& 31)) &&& 1 = if Int32.ofNat i.val &&& 1 = 0 then 0 else 1 := by decide +kernel
theorem z_bt0 {f : Int32} (h : zr 0 255 f) : (f >>> ((0 : Int32) &&& 31)) &&& 1 = if f &&& 1 = 0 then 0 else 1 := by
  obtain ⟨i, ei⟩ := z_byteF h
  subst ei
  exact v_b0 i
theorem v_b1 : ∀ i : Fin 256, ((Int32.ofNat i.val) >>> ((1 : Int32) &&& 31)) &&& 1 = if Int32.ofNat i.val &&& 2 = 0 then 0 else 1 := by decide +kernel
theorem z_bt1 {f : Int32} (h : zr 0 255 f) : (f >>> ((1 : Int32) &&& 31)) &&& 1 = if f &&& 2 = 0 then 0 else 1 := by
  obtain ⟨i, ei⟩ := z_byteF h
  subst ei
  exact v_b1 i
theorem v_b2 : ∀ i : Fin 256, ((Int32.ofNat i.val) >>> ((2 : Int32) &&& 31)) &&& 1 = if Int32.ofNat i.val &&& 4 = 0 then 0 else 1 := by decide +kernel
theorem z_bt2 {f : Int32} (h : zr 0 255 f) : (f >>> ((2 : Int32) &&& 31)) &&& 1 = if f &&& 4 = 0 then 0 else 1 := by
  obtain ⟨i, ei⟩ := z_byteF h
  subst ei
  exact v_b2 i
theorem v_b3 : ∀ i : Fin 256, ((Int32.ofNat i.val) >>> ((3 : Int32) &&& 31)) &&& 1 = if Int32.ofNat i.val &&& 8 = 0 then 0 else 1 := by decide +kernel
theorem z_bt3 {f : Int32} (h : zr 0 255 f) : (f >>> ((3 : Int32) &&& 31)) &&& 1 = if f &&& 8 = 0 then 0 else 1 := by
  obtain ⟨i, ei⟩ := z_byteF h
  subst ei
  exact v_b3 i
theorem v_b4 : ∀ i : Fin 256, ((Int32.ofNat i.val) >>> ((4 : Int32) &&& 31)) &&& 1 = if Int32.ofNat i.val &&& 16 = 0 then 0 else 1 := by decide +kernel
theorem z_bt4 {f : Int32} (h : zr 0 255 f) : (f >>> ((4 : Int32) &&& 31)) &&& 1 = if f &&& 16 = 0 then 0 else 1 := by
  obtain ⟨i, ei⟩ := z_byteF h
  subst ei
  exact v_b4 i
theorem v_b5 : ∀ i : Fin 256, ((Int32.ofNat i.val) >>> ((5 : Int32) &&& 31)) &&& 1 = if Int32.ofNat i.val &&& 32 = 0 then 0 else 1 := by decide +kernel
theorem z_bt5 {f : Int32} (h : zr 0 255 f) : (f >>> ((5 : Int32) &&& 31)) &&& 1 = if f &&& 32 = 0 then 0 else 1 := by
  obtain ⟨i, ei⟩ := z_byteF h
  subst ei
  exact v_b5 i
theorem v_b6 : ∀ i : Fin 256, ((Int32.ofNat i.val) >>> ((6 : Int32) &&& 31)) &&& 1 = if Int32.ofNat i.val &&& 64 = 0 then 0 else 1 := by decide +kernel
theorem z_bt6 {f : Int32} (h : zr 0 255 f) : (f >>> ((6 : Int32) &&& 31)) &&& 1 = if f &&& 64 = 0 then 0 else 1 := by
  obtain ⟨i, ei⟩ := z_byteF h
  subst ei
  exact v_b6 i
theorem v_b7 : ∀ i : Fin 256, ((Int32.ofNat i.val) >>> ((7 : Int32) &&& 31)) &&& 1 = if Int32.ofNat i.val &&& 128 = 0 then 0 else 1 := by decide +kernel
theorem z_bt7 {f : Int32} (h : zr 0 255 f) : (f >>> ((7 : Int32) &&& 31)) &&& 1 = if f &&& 128 = 0 then 0 else 1 := by
  obtain ⟨i, ei⟩ := z_byteF h
  subst ei
  exact v_b7 i
section ZCC
variable {I : zSt → zSt → Prop} {σ μ : zSt}
theorem t_cc (hF : zF σ μ) (hf : zr 0 255 (σ.1 36 1)) {y : Int32} (hy : zr 0 7 y) : zp2 (fX5_holds σ y) (fX12_cc μ y) (fun r r' => r.1 = σ ∧ r'.1 = μ ∧ r'.2 = r.2 ∧ zr 0 1 r.2) := by
  have ef : μ.1 3 1 = σ.1 36 1 := hF
  have r0 : zr 0 1 (0 : Int32) := zr_c (by decide)
  have r1 : zr 0 1 (1 : Int32) := zr_c (by decide)
  unfold fX5_holds fX12_cc fX5_holds_24 fX5_holds_36 fX5_holds_44 fX12_cc_32
  rcases zr_hd (c := 0) hy rfl with e | hy
  · subst e
    refine zp2_ckl (zp2_ckl ?_)
    refine zp2_ifr (fun q => absurd q (by decide)) (fun _ => ?_)
    refine zp2_bir p_flag (fun t u et => ?_)
    cases et
    rw [ef, z_bt6 hf]
    unfold fX12_cc_44 fX12_cc_56 fX12_cc_64
    by_cases q : σ.1 36 1 &&& 64 = 0
    · refine zp2_ifl (fun _ => ?_) (fun r => absurd (show σ.1 36 1 &&& 64 = 0 from q) r)
      refine zp2_ifl (fun q => absurd q (by decide)) (fun _ => ?_)
      refine zp2_ifl (fun _ => zp2_ckl ?_) (fun r => absurd rfl r)
      rw [if_pos q]
      refine zp2_ifr (fun q => absurd q (by decide)) (fun _ => zp2_ckr ?_)
      refine zp2_ifr (fun q => absurd q (by decide)) (fun _ => ?_)
      exact zp2_ifr (fun _ => zp2_ckr (zp2_some ⟨rfl, rfl, rfl, r1⟩)) (fun r => absurd rfl r)
    · refine zp2_ifl (fun r => absurd (show σ.1 36 1 &&& 64 = 0 from r) q) (fun _ => ?_)
      refine zp2_ifl (fun q => absurd q (by decide)) (fun _ => ?_)
      refine zp2_ifl (fun q => absurd q (by decide)) (fun _ => zp2_ckl ?_)
      rw [if_neg q]
      refine zp2_ifr (fun _ => zp2_ckr ?_) (fun r => absurd rfl r)
      refine zp2_ifr (fun q => absurd q (by decide)) (fun _ => ?_)
      exact zp2_ifr (fun q => absurd q (by decide)) (fun _ => zp2_ckr (zp2_some ⟨rfl, rfl, rfl, r0⟩))
  rcases zr_hd (c := 1) hy rfl with e | hy
  · subst e
    refine zp2_ckl (zp2_ckl ?_)
    refine zp2_ifr (fun q => absurd q (by decide)) (fun _ => ?_)
    refine zp2_bir p_flag (fun t u et => ?_)
    cases et
    rw [ef, z_bt6 hf]
    unfold fX12_cc_44 fX12_cc_56 fX12_cc_64
    by_cases q : σ.1 36 1 &&& 64 = 0
    · refine zp2_ifl (fun _ => ?_) (fun r => absurd (show σ.1 36 1 &&& 64 = 0 from q) r)
      refine zp2_ifl (fun _ => ?_) (fun r => absurd (by decide) r)
      refine zp2_ifl (fun q => absurd q (by decide)) (fun _ => zp2_ckl ?_)
      rw [if_pos q]
      refine zp2_ifr (fun q => absurd q (by decide)) (fun _ => zp2_ckr ?_)
      refine zp2_ifr (fun _ => ?_) (fun r => absurd (by decide) r)
      exact zp2_ifr (fun q => absurd q (by decide)) (fun _ => zp2_ckr (zp2_some ⟨rfl, rfl, rfl, r0⟩))
    · refine zp2_ifl (fun r => absurd (show σ.1 36 1 &&& 64 = 0 from r) q) (fun _ => ?_)
      refine zp2_ifl (fun _ => ?_) (fun r => absurd (by decide) r)
      refine zp2_ifl (fun _ => zp2_ckl ?_) (fun r => absurd rfl r)
      rw [if_neg q]
      refine zp2_ifr (fun _ => zp2_ckr ?_) (fun r => absurd rfl r)
      refine zp2_ifr (fun _ => ?_) (fun r => absurd (by decide) r)
      exact zp2_ifr (fun _ => zp2_ckr (zp2_some ⟨rfl, rfl, rfl, r1⟩)) (fun r => absurd rfl r)
  rcases zr_hd (c := 2) hy rfl with e | hy
  · subst e
    refine zp2_ckl (zp2_ckl ?_)
    refine zp2_ifr (fun _ => zp2_ifr (fun q => absurd q (by decide)) (fun _ => ?_)) (fun q => absurd (by decide) q)
    refine zp2_bir p_flag (fun t u et => ?_)
    cases et
    rw [ef, z_bt0 hf]
    unfold fX12_cc_44 fX12_cc_56 fX12_cc_64
    by_cases q : σ.1 36 1 &&& 1 = 0
    · refine zp2_ifl (fun _ => ?_) (fun r => absurd (show σ.1 36 1 &&& 1 = 0 from q) r)
      refine zp2_ifl (fun q => absurd q (by decide)) (fun _ => ?_)
      refine zp2_ifl (fun _ => zp2_ckl ?_) (fun r => absurd rfl r)
      rw [if_pos q]
      refine zp2_ifr (fun q => absurd q (by decide)) (fun _ => zp2_ckr ?_)
      refine zp2_ifr (fun q => absurd q (by decide)) (fun _ => ?_)
      exact zp2_ifr (fun _ => zp2_ckr (zp2_some ⟨rfl, rfl, rfl, r1⟩)) (fun r => absurd rfl r)
    · refine zp2_ifl (fun r => absurd (show σ.1 36 1 &&& 1 = 0 from r) q) (fun _ => ?_)
      refine zp2_ifl (fun q => absurd q (by decide)) (fun _ => ?_)
      refine zp2_ifl (fun q => absurd q (by decide)) (fun _ => zp2_ckl ?_)
      rw [if_neg q]
      refine zp2_ifr (fun _ => zp2_ckr ?_) (fun r => absurd rfl r)
      refine zp2_ifr (fun q => absurd q (by decide)) (fun _ => ?_)
      exact zp2_ifr (fun q => absurd q (by decide)) (fun _ => zp2_ckr (zp2_some ⟨rfl, rfl, rfl, r0⟩))
  rcases zr_hd (c := 3) hy rfl with e | hy
  · subst e
    refine zp2_ckl (zp2_ckl ?_)
    refine zp2_ifr (fun _ => zp2_ifr (fun q => absurd q (by decide)) (fun _ => ?_)) (fun q => absurd (by decide) q)
    refine zp2_bir p_flag (fun t u et => ?_)
    cases et
    rw [ef, z_bt0 hf]
    unfold fX12_cc_44 fX12_cc_56 fX12_cc_64
    by_cases q : σ.1 36 1 &&& 1 = 0
    · refine zp2_ifl (fun _ => ?_) (fun r => absurd (show σ.1 36 1 &&& 1 = 0 from q) r)
      refine zp2_ifl (fun _ => ?_) (fun r => absurd (by decide) r)
      refine zp2_ifl (fun q => absurd q (by decide)) (fun _ => zp2_ckl ?_)
      rw [if_pos q]
      refine zp2_ifr (fun q => absurd q (by decide)) (fun _ => zp2_ckr ?_)
      refine zp2_ifr (fun _ => ?_) (fun r => absurd (by decide) r)
      exact zp2_ifr (fun q => absurd q (by decide)) (fun _ => zp2_ckr (zp2_some ⟨rfl, rfl, rfl, r0⟩))
    · refine zp2_ifl (fun r => absurd (show σ.1 36 1 &&& 1 = 0 from r) q) (fun _ => ?_)
      refine zp2_ifl (fun _ => ?_) (fun r => absurd (by decide) r)
      refine zp2_ifl (fun _ => zp2_ckl ?_) (fun r => absurd rfl r)
      rw [if_neg q]
      refine zp2_ifr (fun _ => zp2_ckr ?_) (fun r => absurd rfl r)
      refine zp2_ifr (fun _ => ?_) (fun r => absurd (by decide) r)
      exact zp2_ifr (fun _ => zp2_ckr (zp2_some ⟨rfl, rfl, rfl, r1⟩)) (fun r => absurd rfl r)
  rcases zr_hd (c := 4) hy rfl with e | hy
  · subst e
    refine zp2_ckl (zp2_ckl ?_)
    refine zp2_ifr (fun _ => zp2_ifr (fun _ => zp2_ifr (fun q => absurd q (by decide)) (fun _ => ?_)) (fun q => absurd (by decide) q)) (fun q => absurd (by decide) q)
    refine zp2_bir p_flag (fun t u et => ?_)
    cases et
    rw [ef, z_bt2 hf]
    unfold fX12_cc_44 fX12_cc_56 fX12_cc_64
    by_cases q : σ.1 36 1 &&& 4 = 0
    · refine zp2_ifl (fun _ => ?_) (fun r => absurd (show σ.1 36 1 &&& 4 = 0 from q) r)
      refine zp2_ifl (fun q => absurd q (by decide)) (fun _ => ?_)
      refine zp2_ifl (fun _ => zp2_ckl ?_) (fun r => absurd rfl r)
      rw [if_pos q]
      refine zp2_ifr (fun q => absurd q (by decide)) (fun _ => zp2_ckr ?_)
      refine zp2_ifr (fun q => absurd q (by decide)) (fun _ => ?_)
      exact zp2_ifr (fun _ => zp2_ckr (zp2_some ⟨rfl, rfl, rfl, r1⟩)) (fun r => absurd rfl r)
    · refine zp2_ifl (fun r => absurd (show σ.1 36 1 &&& 4 = 0 from r) q) (fun _ => ?_)
      refine zp2_ifl (fun q => absurd q (by decide)) (fun _ => ?_)
      refine zp2_ifl (fun q => absurd q (by decide)) (fun _ => zp2_ckl ?_)
      rw [if_neg q]
      refine zp2_ifr (fun _ => zp2_ckr ?_) (fun r => absurd rfl r)
      refine zp2_ifr (fun q => absurd q (by decide)) (fun _ => ?_)
      exact zp2_ifr (fun q => absurd q (by decide)) (fun _ => zp2_ckr (zp2_some ⟨rfl, rfl, rfl, r0⟩))
  rcases zr_hd (c := 5) hy rfl with e | hy
  · subst e
    refine zp2_ckl (zp2_ckl ?_)
    refine zp2_ifr (fun _ => zp2_ifr (fun _ => zp2_ifr (fun q => absurd q (by decide)) (fun _ => ?_)) (fun q => absurd (by decide) q)) (fun q => absurd (by decide) q)
    refine zp2_bir p_flag (fun t u et => ?_)
    cases et
    rw [ef, z_bt2 hf]
    unfold fX12_cc_44 fX12_cc_56 fX12_cc_64
    by_cases q : σ.1 36 1 &&& 4 = 0
    · refine zp2_ifl (fun _ => ?_) (fun r => absurd (show σ.1 36 1 &&& 4 = 0 from q) r)
      refine zp2_ifl (fun _ => ?_) (fun r => absurd (by decide) r)
      refine zp2_ifl (fun q => absurd q (by decide)) (fun _ => zp2_ckl ?_)
      rw [if_pos q]
      refine zp2_ifr (fun q => absurd q (by decide)) (fun _ => zp2_ckr ?_)
      refine zp2_ifr (fun _ => ?_) (fun r => absurd (by decide) r)
      exact zp2_ifr (fun q => absurd q (by decide)) (fun _ => zp2_ckr (zp2_some ⟨rfl, rfl, rfl, r0⟩))
    · refine zp2_ifl (fun r => absurd (show σ.1 36 1 &&& 4 = 0 from r) q) (fun _ => ?_)
      refine zp2_ifl (fun _ => ?_) (fun r => absurd (by decide) r)
      refine zp2_ifl (fun _ => zp2_ckl ?_) (fun r => absurd rfl r)
      rw [if_neg q]
      refine zp2_ifr (fun _ => zp2_ckr ?_) (fun r => absurd rfl r)
      refine zp2_ifr (fun _ => ?_) (fun r => absurd (by decide) r)
      exact zp2_ifr (fun _ => zp2_ckr (zp2_some ⟨rfl, rfl, rfl, r1⟩)) (fun r => absurd rfl r)
  rcases zr_hd (c := 6) hy rfl with e | hy
  · subst e
    refine zp2_ckl (zp2_ckl ?_)
    refine zp2_ifr (fun _ => zp2_ifr (fun _ => zp2_ifr (fun _ => ?_) (fun q => absurd (by decide) q)) (fun q => absurd (by decide) q)) (fun q => absurd (by decide) q)
    refine zp2_bir p_flag (fun t u et => ?_)
    cases et
    rw [ef, z_bt7 hf]
    unfold fX12_cc_44 fX12_cc_56 fX12_cc_64
    by_cases q : σ.1 36 1 &&& 128 = 0
    · refine zp2_ifl (fun _ => ?_) (fun r => absurd (show σ.1 36 1 &&& 128 = 0 from q) r)
      refine zp2_ifl (fun q => absurd q (by decide)) (fun _ => ?_)
      refine zp2_ifl (fun _ => zp2_ckl ?_) (fun r => absurd rfl r)
      rw [if_pos q]
      refine zp2_ifr (fun q => absurd q (by decide)) (fun _ => zp2_ckr ?_)
      refine zp2_ifr (fun q => absurd q (by decide)) (fun _ => ?_)
      exact zp2_ifr (fun _ => zp2_ckr (zp2_some ⟨rfl, rfl, rfl, r1⟩)) (fun r => absurd rfl r)
    · refine zp2_ifl (fun r => absurd (show σ.1 36 1 &&& 128 = 0 from r) q) (fun _ => ?_)
      refine zp2_ifl (fun q => absurd q (by decide)) (fun _ => ?_)
      refine zp2_ifl (fun q => absurd q (by decide)) (fun _ => zp2_ckl ?_)
      rw [if_neg q]
      refine zp2_ifr (fun _ => zp2_ckr ?_) (fun r => absurd rfl r)
      refine zp2_ifr (fun q => absurd q (by decide)) (fun _ => ?_)
      exact zp2_ifr (fun q => absurd q (by decide)) (fun _ => zp2_ckr (zp2_some ⟨rfl, rfl, rfl, r0⟩))
  rcases zr_hd (c := 7) hy rfl with e | hy
  · subst e
    refine zp2_ckl (zp2_ckl ?_)
    refine zp2_ifr (fun _ => zp2_ifr (fun _ => zp2_ifr (fun _ => ?_) (fun q => absurd (by decide) q)) (fun q => absurd (by decide) q)) (fun q => absurd (by decide) q)
    refine zp2_bir p_flag (fun t u et => ?_)
    cases et
    rw [ef, z_bt7 hf]
    unfold fX12_cc_44 fX12_cc_56 fX12_cc_64
    by_cases q : σ.1 36 1 &&& 128 = 0
    · refine zp2_ifl (fun _ => ?_) (fun r => absurd (show σ.1 36 1 &&& 128 = 0 from q) r)
      refine zp2_ifl (fun _ => ?_) (fun r => absurd (by decide) r)
      refine zp2_ifl (fun q => absurd q (by decide)) (fun _ => zp2_ckl ?_)
      rw [if_pos q]
      refine zp2_ifr (fun q => absurd q (by decide)) (fun _ => zp2_ckr ?_)
      refine zp2_ifr (fun _ => ?_) (fun r => absurd (by decide) r)
      exact zp2_ifr (fun q => absurd q (by decide)) (fun _ => zp2_ckr (zp2_some ⟨rfl, rfl, rfl, r0⟩))
    · refine zp2_ifl (fun r => absurd (show σ.1 36 1 &&& 128 = 0 from r) q) (fun _ => ?_)
      refine zp2_ifl (fun _ => ?_) (fun r => absurd (by decide) r)
      refine zp2_ifl (fun _ => zp2_ckl ?_) (fun r => absurd rfl r)
      rw [if_neg q]
      refine zp2_ifr (fun _ => zp2_ckr ?_) (fun r => absurd rfl r)
      refine zp2_ifr (fun _ => ?_) (fun r => absurd (by decide) r)
      exact zp2_ifr (fun _ => zp2_ckr (zp2_some ⟨rfl, rfl, rfl, r1⟩)) (fun r => absurd rfl r)
  exact zr_no9 hy (by decide)
end ZCC
end ZJN28
