section ZJN0
theorem w_fX5_putOne_88 {σ0 : zSt} {σ : zSt} (h : zKeC σ0 σ) : zpc (fX5_putOne_88 σ) (fun r => zKeC σ0 (r)) := by
  unfold fX5_putOne_88
  exact zpc_some h
theorem w_fX5_putOne {σ0 : zSt} {σ : zSt} {x1 : Int32} {x2 : Int32} (h : zKeC σ0 σ) : zpc (fX5_putOne σ x1 x2) (fun r => zKeC σ0 (r)) := by
  unfold fX5_putOne
  exact zpc_if (fun _ => zpc_bu (w_fX5_putPairHalf h) (fun σ1 hσ1 => w_fX5_putOne_88 hσ1)) (fun _ => zpc_if (fun _ => zpc_bu (w_fX5_putPairHalf h) (fun σ2 hσ2 => w_fX5_putOne_88 hσ2)) (fun _ => zpc_if (fun _ => zpc_bu (w_fX2_write h) (fun σ3 hσ3 => w_fX5_putOne_88 hσ3)) (fun _ => zpc_if (fun _ => zpc_ck (zpc_bs (zKeC.wi h (by decide)) (fun σ4 hσ4 => w_fX5_putOne_88 hσ4))) (fun _ => zpc_ck (zpc_bs (zKeC.wi h (by decide)) (fun σ5 hσ5 => w_fX5_putOne_88 hσ5))))))
theorem w_fX5_turnBeside_128 {σ0 : zSt} {σ : zSt} (h : zKeC σ0 σ) : zpc (fX5_turnBeside_128 σ) (fun r => zKeC σ0 (r.1)) := by
  unfold fX5_turnBeside_128
  exact zpc_some h
theorem w_fX5_turnBeside {σ0 : zSt} {σ : zSt} (h : zKeC σ0 σ) : zpc (fX5_turnBeside σ) (fun r => zKeC σ0 (r.1)) := by
  unfold fX5_turnBeside
  exact zpc_ck (zpc_bi (w_fX5_fetch h) (fun σ1 v2 hσ1 => zpc_ck (zpc_bs (zKeC.wi hσ1 (by decide)) (fun σ3 hσ3 => zpc_ck (zpc_bs (zKeC.wi hσ3 (by decide)) (fun σ4 hσ4 => zpc_bs (zKeC.wi hσ4 (by decide)) (fun σ5 hσ5 => zpc_bi (w_fX5_fetch hσ5) (fun σ6 v7 hσ6 => zpc_bi (w_fX2_read hσ6) (fun σ8 v9 hσ8 => zpc_if (fun _ => zpc_ck (zpc_bu (w_fX5_askBit hσ8) (fun σ14 hσ14 => zpc_some hσ14))) (fun _ => zpc_bi (w_fX5_turned hσ8) (fun σ10 v11 hσ10 => zpc_bu (w_fX2_write hσ10) (fun σ12 hσ12 => zpc_if (fun _ => w_fX5_turnBeside_128 hσ12) (fun _ => zpc_bu (w_fX5_putOne hσ12) (fun σ13 hσ13 => w_fX5_turnBeside_128 hσ13))))))))))))))
theorem w_fX5_meansPlace_97 {σ0 : zSt} {σ : zSt} {s0 : Int32} (h : zKeC σ0 σ) : zpc (fX5_meansPlace_97 σ s0) (fun r => zKeC σ0 (r.1)) := by
  unfold fX5_meansPlace_97
  exact zpc_ck (zpc_some h)
theorem w_fX5_meansPlace_86 {σ0 : zSt} {σ : zSt} {s0 : Int32} (h : zKeC σ0 σ) : zpc (fX5_meansPlace_86 σ s0) (fun r => zKeC σ0 (r.1)) := by
  unfold fX5_meansPlace_86
  exact zpc_ck (zpc_some h)
theorem w_fX5_meansPlace_85 {σ0 : zSt} {σ : zSt} (h : zKeC σ0 σ) : zpc (fX5_meansPlace_85 σ) (fun r => zKeC σ0 (r.1)) := by
  unfold fX5_meansPlace_85
  exact w_fX5_meansPlace_86 h
theorem w_fX5_meansPlace_29 {σ0 : zSt} {σ : zSt} {x0 : Int32} {x1 : Int32} {s0 : Int32} (h : zKeC σ0 σ) : zpc (fX5_meansPlace_29 σ x0 x1 s0) (fun r => zKeC σ0 (r.1)) := by
  unfold fX5_meansPlace_29
  exact zpc_if (fun _ => zpc_if (fun _ => w_fX5_meansPlace_85 h) (fun _ => zpc_if (fun _ => w_fX5_meansPlace_85 h) (fun _ => zpc_if (fun _ => w_fX5_meansPlace_85 h) (fun _ => w_fX5_meansPlace_86 h)))) (fun _ => zpc_if (fun _ => zpc_if (fun _ => w_fX5_meansPlace_97 h) (fun _ => w_fX5_meansPlace_97 h)) (fun _ => zpc_if (fun _ => zpc_ck (zpc_some h)) (fun _ => zpc_ck (zpc_some h))))
theorem w_fX5_meansPlace_14 {σ0 : zSt} {σ : zSt} {x0 : Int32} {s0 : Int32} (h : zKeC σ0 σ) : zpc (fX5_meansPlace_14 σ x0 s0) (fun r => zKeC σ0 (r.1)) := by
  unfold fX5_meansPlace_14
  exact zpc_if (fun _ => w_fX5_meansPlace_29 h) (fun _ => w_fX5_meansPlace_29 h)
theorem w_fX5_meansPlace {σ0 : zSt} {σ : zSt} {x0 : Int32} (h : zKeC σ0 σ) : zpc (fX5_meansPlace σ x0) (fun r => zKeC σ0 (r.1)) := by
  unfold fX5_meansPlace
  exact zpc_if (fun _ => w_fX5_meansPlace_14 h) (fun _ => w_fX5_meansPlace_14 h)
theorem w_fX5_takePlace_64 {σ0 : zSt} {σ : zSt} {s0 : Int32} (h : zKeC σ0 σ) : zpc (fX5_takePlace_64 σ s0) (fun r => zKeC σ0 (r.1)) := by
  unfold fX5_takePlace_64
  exact zpc_some h
theorem w_fX5_takePlace {σ0 : zSt} {σ : zSt} {x1 : Int32} (h : zKeC σ0 σ) : zpc (fX5_takePlace σ x1) (fun r => zKeC σ0 (r.1)) := by
  unfold fX5_takePlace
  exact zpc_bi (w_fX5_meansPlace h) (fun σ1 v2 hσ1 => zpc_if (fun _ => zpc_some hσ1) (fun _ => zpc_ck (zpc_bi (w_fX5_fetch hσ1) (fun σ3 v4 hσ3 => zpc_ck (zpc_bs (zKeC.wi hσ3 (by decide)) (fun σ5 hσ5 => zpc_ck (zpc_bs (zKeC.wi hσ5 (by decide)) (fun σ6 hσ6 => zpc_bs (zKeC.wi hσ6 (by decide)) (fun σ7 hσ7 => zpc_if (fun _ => w_fX5_takePlace_64 hσ7) (fun _ => w_fX5_takePlace_64 hσ7))))))))))
theorem w_fX5_one_96 {σ0 : zSt} {σ : zSt} {s0 : Int32} (h : zKeC σ0 σ) : zpc (fX5_one_96 σ s0) (fun r => zKeC σ0 (r.1)) := by
  unfold fX5_one_96
  exact zpc_some h
theorem w_fX5_one_63 {σ0 : zSt} {σ : zSt} {s0 : Int32} (h : zKeC σ0 σ) : zpc (fX5_one_63 σ s0) (fun r => zKeC σ0 (r.1)) := by
  unfold fX5_one_63
  exact zpc_some h
theorem w_fX5_one {σ0 : zSt} {σ : zSt} {x1 : Int32} (h : zKeC σ0 σ) : zpc (fX5_one σ x1) (fun r => zKeC σ0 (r.1)) := by
  unfold fX5_one
  exact zpc_if (fun _ => zpc_if (fun _ => zpc_ck (w_fX5_one_63 h)) (fun _ => zpc_ck (w_fX5_one_63 h))) (fun _ => zpc_if (fun _ => zpc_if (fun _ => zpc_ck (w_fX5_one_96 h)) (fun _ => zpc_ck (w_fX5_one_96 h))) (fun _ => zpc_if (fun _ => zpc_bi (w_fX2_read h) (fun σ1 v2 hσ1 => zpc_some hσ1)) (fun _ => zpc_if (fun _ => zpc_ck (zpc_some h)) (fun _ => zpc_ck (zpc_some h)))))
theorem w_fX5_turns_63 {σ0 : zSt} {σ : zSt} {s0 : Int32} (h : zKeC σ0 σ) : zpc (fX5_turns_63 σ s0) (fun r => zKeC σ0 (r.1)) := by
  unfold fX5_turns_63
  exact zpc_some h
theorem w_fX5_turns_47 {σ0 : zSt} {σ : zSt} {x2 : Int32} {s0 : Int32} {s1 : Int32} {s2 : Int32} (h : zKeC σ0 σ) : zpc (fX5_turns_47 σ x2 s0 s1 s2) (fun r => zKeC σ0 (r.1)) := by
  unfold fX5_turns_47
  exact zpc_bu (w_fX5_askBit h) (fun σ1 hσ1 => zpc_if (fun _ => w_fX5_turns_63 hσ1) (fun _ => w_fX5_turns_63 hσ1))
theorem w_fX5_turns_88 {σ0 : zSt} {σ : zSt} {s0 : Int32} (h : zKeC σ0 σ) : zpc (fX5_turns_88 σ s0) (fun r => zKeC σ0 (r.1)) := by
  unfold fX5_turns_88
  exact zpc_some h
theorem w_fX5_turns {σ0 : zSt} {σ : zSt} {x1 : Int32} (h : zKeC σ0 σ) : zpc (fX5_turns σ x1) (fun r => zKeC σ0 (r.1)) := by
  unfold fX5_turns
  exact zpc_bv (fun v2 _ => zpc_bi (w_fX5_one h) (fun σ3 v4 hσ3 => zpc_if (fun _ => zpc_if (fun _ => zpc_ck (w_fX5_turns_47 hσ3)) (fun _ => w_fX5_turns_47 hσ3)) (fun _ => zpc_bi (w_fX5_turned hσ3) (fun σ5 v6 hσ5 => zpc_bu (w_fX5_putOne hσ5) (fun σ7 hσ7 => zpc_if (fun _ => w_fX5_turns_88 hσ7) (fun _ => w_fX5_turns_88 hσ7))))))
theorem w_fX5_putPairAt {σ0 : zSt} {σ : zSt} {x1 : Int32} {x2 : Int32} (h : zKeC σ0 σ) : zpc (fX5_putPairAt σ x1 x2) (fun r => zKeC σ0 (r)) := by
  unfold fX5_putPairAt
  exact zpc_ck (zpc_bs (zKeC.wi h (by decide)) (fun σ1 hσ1 => zpc_ck (zpc_bs (zKeC.wi hσ1 (by decide)) (fun σ2 hσ2 => zpc_some hσ2))))
theorem w_fX5_tellOfPort_34 {σ0 : zSt} {σ : zSt} {x2 : Int32} {s0 : Int32} {s1 : Int32} {s2 : Int32} (h : zKeC σ0 σ) : zpc (fX5_tellOfPort_34 σ x2 s0 s1 s2) (fun r => zKeC σ0 (r)) := by
  unfold fX5_tellOfPort_34
  exact zpc_ck (zpc_bi (w_fX5_parity h) (fun σ1 v2 hσ1 => zpc_ck (zpc_bs (zKeC.wi hσ1 (by decide)) (fun σ3 hσ3 => zpc_some hσ3))))
theorem w_fX5_tellOfPort {σ0 : zSt} {σ : zSt} {x1 : Int32} {x2 : Int32} (h : zKeC σ0 σ) : zpc (fX5_tellOfPort σ x1 x2) (fun r => zKeC σ0 (r)) := by
  unfold fX5_tellOfPort
  exact zpc_ck (zpc_bi (w_fX5_by h) (fun σ4 v5 hσ4 => zpc_if (fun _ => w_fX5_tellOfPort_34 hσ4) (fun _ => w_fX5_tellOfPort_34 hσ4)))
theorem w_fX5_giveOne_105 {σ0 : zSt} {σ : zSt} {s0 : Int32} (h : zKeC σ0 σ) : zpc (fX5_giveOne_105 σ s0) (fun r => zKeC σ0 (r.1)) := by
  unfold fX5_giveOne_105
  exact zpc_ck (zpc_some h)
theorem w_fX5_giveOne {σ0 : zSt} {σ : zSt} {x1 : Int32} (h : zKeC σ0 σ) : zpc (fX5_giveOne σ x1) (fun r => zKeC σ0 (r.1)) := by
  unfold fX5_giveOne
  exact zpc_bi (w_fX5_pairAt h) (fun σ1 v2 hσ1 => zpc_bi (w_fX2_read hσ1) (fun σ3 v4 hσ3 => zpc_ck (zpc_ck (zpc_bs (zKeC.wi hσ3 (by decide)) (fun σ5 hσ5 => zpc_ck (zpc_bu (w_fX4_write hσ5) (fun σ6 hσ6 => zpc_bi (w_fX5_pairAt hσ6) (fun σ7 v8 hσ7 => zpc_bu (w_fX5_putPairAt hσ7) (fun σ9 hσ9 => zpc_bi (w_fX5_pairAt hσ9) (fun σ10 v11 hσ10 => zpc_ck (zpc_bs (zKeC.wi hσ10 (by decide)) (fun σ12 hσ12 => zpc_ck (zpc_bu (w_fX5_tellOfPort hσ12) (fun σ13 hσ13 => zpc_ck (zpc_if (fun _ => w_fX5_giveOne_105 hσ13) (fun _ => w_fX5_giveOne_105 hσ13))))))))))))))))
theorem w_fX5_takeOne_110 {σ0 : zSt} {σ : zSt} {s0 : Int32} (h : zKeC σ0 σ) : zpc (fX5_takeOne_110 σ s0) (fun r => zKeC σ0 (r.1)) := by
  unfold fX5_takeOne_110
  exact zpc_ck (zpc_some h)
theorem w_fX5_takeOne {σ0 : zSt} {σ : zSt} {x1 : Int32} (h : zKeC σ0 σ) : zpc (fX5_takeOne σ x1) (fun r => zKeC σ0 (r.1)) := by
  unfold fX5_takeOne
  exact zpc_bi (w_fX5_pairAt h) (fun σ1 v2 hσ1 => zpc_ck (zpc_bs (zKeC.wi hσ1 (by decide)) (fun σ3 hσ3 => zpc_ck (zpc_bi (w_fX4_read hσ3) (fun σ4 v5 hσ4 => zpc_ck (zpc_ck (zpc_bs (zKeC.wi hσ4 (by decide)) (fun σ6 hσ6 => zpc_bi (w_fX5_pairAt hσ6) (fun σ7 v8 hσ7 => zpc_bu (w_fX2_write hσ7) (fun σ9 hσ9 => zpc_bi (w_fX5_pairAt hσ9) (fun σ10 v11 hσ10 => zpc_bu (w_fX5_putPairAt hσ10) (fun σ12 hσ12 => zpc_ck (zpc_bu (w_fX5_tellOfPort hσ12) (fun σ13 hσ13 => zpc_ck (zpc_if (fun _ => w_fX5_takeOne_110 hσ13) (fun _ => w_fX5_takeOne_110 hσ13))))))))))))))))
theorem w_fX5_compareOne_184 {σ0 : zSt} {σ : zSt} {s0 : Int32} (h : zKeC σ0 σ) : zpc (fX5_compareOne_184 σ s0) (fun r => zKeC σ0 (r.1)) := by
  unfold fX5_compareOne_184
  exact zpc_ck (zpc_some h)
theorem w_fX5_compareOne_183 {σ0 : zSt} {σ : zSt} (h : zKeC σ0 σ) : zpc (fX5_compareOne_183 σ) (fun r => zKeC σ0 (r.1)) := by
  unfold fX5_compareOne_183
  exact w_fX5_compareOne_184 h
theorem w_fX5_compareOne_166 {σ0 : zSt} {σ : zSt} {x3 : Int32} {x5 : Int32} {s0 : Int32} {s1 : Int32} {s2 : Int32} (h : zKeC σ0 σ) : zpc (fX5_compareOne_166 σ x3 x5 s0 s1 s2) (fun r => zKeC σ0 (r.1)) := by
  unfold fX5_compareOne_166
  exact zpc_ck (zpc_bs (zKeC.wi h (by decide)) (fun σ1 hσ1 => zpc_if (fun _ => w_fX5_compareOne_183 hσ1) (fun _ => zpc_if (fun _ => w_fX5_compareOne_183 hσ1) (fun _ => w_fX5_compareOne_184 hσ1))))
theorem w_fX5_compareOne_139 {σ0 : zSt} {σ : zSt} {x3 : Int32} {x4 : Int32} {x5 : Int32} {x6 : Int32} {s0 : Int32} {s1 : Int32} {s2 : Int32} (h : zKeC σ0 σ) : zpc (fX5_compareOne_139 σ x3 x4 x5 x6 s0 s1 s2) (fun r => zKeC σ0 (r.1)) := by
  unfold fX5_compareOne_139
  exact zpc_if (fun _ => w_fX5_compareOne_166 h) (fun _ => w_fX5_compareOne_166 h)
theorem w_fX5_compareOne_100 {σ0 : zSt} {σ : zSt} {x3 : Int32} {x4 : Int32} {s0 : Int32} (h : zKeC σ0 σ) : zpc (fX5_compareOne_100 σ x3 x4 s0) (fun r => zKeC σ0 (r.1)) := by
  unfold fX5_compareOne_100
  exact zpc_bv (fun v2 _ => zpc_ck (zpc_if (fun _ => w_fX5_compareOne_139 h) (fun _ => w_fX5_compareOne_139 h)))
theorem w_fX5_compareOne {σ0 : zSt} {σ : zSt} {x1 : Int32} (h : zKeC σ0 σ) : zpc (fX5_compareOne σ x1) (fun r => zKeC σ0 (r.1)) := by
  unfold fX5_compareOne
  exact zpc_bi (w_fX5_pairAt h) (fun σ3 v4 hσ3 => zpc_bi (w_fX2_read hσ3) (fun σ5 v6 hσ5 => zpc_ck (zpc_bv (fun v7 _ => zpc_ck (zpc_bv (fun v8 _ => zpc_bi (w_fX5_pairAt hσ5) (fun σ9 v10 hσ9 => zpc_bu (w_fX5_putPairAt hσ9) (fun σ11 hσ11 => zpc_bi (w_fX5_pairAt hσ11) (fun σ12 v13 hσ12 => zpc_bu (w_fX5_putPairAt hσ12) (fun σ14 hσ14 => zpc_ck (zpc_ck (zpc_bs (zKeC.wi hσ14 (by decide)) (fun σ15 hσ15 => zpc_bi (w_fX5_pairAt hσ15) (fun σ16 v17 hσ16 => zpc_if (fun _ => w_fX5_compareOne_100 hσ16) (fun _ => w_fX5_compareOne_100 hσ16)))))))))))))))
theorem w_fX5_copyOne_126 {σ0 : zSt} {σ : zSt} {x3 : Int32} {s0 : Int32} {s1 : Int32} {s2 : Int32} (h : zKeC σ0 σ) : zpc (fX5_copyOne_126 σ x3 s0 s1 s2) (fun r => zKeC σ0 (r.1)) := by
  unfold fX5_copyOne_126
  exact zpc_ck (zpc_bs (zKeC.wi h (by decide)) (fun σ1 hσ1 => zpc_ck (zpc_some hσ1)))
theorem w_fX5_copyOne_78 {σ0 : zSt} {σ : zSt} {x2 : Int32} {s0 : Int32} (h : zKeC σ0 σ) : zpc (fX5_copyOne_78 σ x2 s0) (fun r => zKeC σ0 (r.1)) := by
  unfold fX5_copyOne_78
  exact zpc_ck (zpc_bv (fun v2 _ => zpc_ck (zpc_if (fun _ => w_fX5_copyOne_126 h) (fun _ => w_fX5_copyOne_126 h))))
theorem w_fX5_copyOne {σ0 : zSt} {σ : zSt} {x1 : Int32} (h : zKeC σ0 σ) : zpc (fX5_copyOne σ x1) (fun r => zKeC σ0 (r.1)) := by
  unfold fX5_copyOne
  exact zpc_bi (w_fX5_pairAt h) (fun σ3 v4 hσ3 => zpc_bi (w_fX2_read hσ3) (fun σ5 v6 hσ5 => zpc_bi (w_fX5_pairAt hσ5) (fun σ7 v8 hσ7 => zpc_bu (w_fX2_write hσ7) (fun σ9 hσ9 => zpc_bi (w_fX5_pairAt hσ9) (fun σ10 v11 hσ10 => zpc_bu (w_fX5_putPairAt hσ10) (fun σ12 hσ12 => zpc_bi (w_fX5_pairAt hσ12) (fun σ13 v14 hσ13 => zpc_bu (w_fX5_putPairAt hσ13) (fun σ15 hσ15 => zpc_bi (w_fX5_pairAt hσ15) (fun σ16 v17 hσ16 => zpc_bu (w_fX5_putPairAt hσ16) (fun σ18 hσ18 => zpc_bi (w_fX5_pairAt hσ18) (fun σ19 v20 hσ19 => zpc_if (fun _ => w_fX5_copyOne_78 hσ19) (fun _ => w_fX5_copyOne_78 hσ19))))))))))))
theorem w_fX5_block_88 {σ0 : zSt} {σ : zSt} (h : zKeC σ0 σ) : zpc (fX5_block_88 σ) (fun r => zKeC σ0 (r.1)) := by
  unfold fX5_block_88
  exact zpc_some h
theorem w_fX5_block_135 {σ0 : zSt} {σ : zSt} (h : zKeC σ0 σ) : zpc (fX5_block_135 σ) (fun r => zKeC σ0 (r.1)) := by
  unfold fX5_block_135
  exact zpc_some h
theorem w_fX5_block_77 {σ0 : zSt} {σ : zSt} {x1 : Int32} {x3 : Int32} (h : zKeC σ0 σ) : zpc (fX5_block_77 σ x1 x3) (fun r => zKeC σ0 (r.1)) := by
  unfold fX5_block_77
  exact zpc_if (fun _ => w_fX5_block_88 h) (fun _ => zpc_if (fun _ => w_fX5_block_88 h) (fun _ => zpc_ck (zpc_ck (zpc_bs (zKeC.wi h (by decide)) (fun σ1 hσ1 => zpc_if (fun _ => zpc_ck (zpc_ck (zpc_bs (zKeC.wi hσ1 (by decide)) (fun σ2 hσ2 => w_fX5_block_135 hσ2)))) (fun _ => w_fX5_block_135 hσ1))))))
theorem w_fX5_block_12 {σ0 : zSt} {σ : zSt} {x1 : Int32} {s0 : Int32} (h : zKeC σ0 σ) : zpc (fX5_block_12 σ x1 s0) (fun r => zKeC σ0 (r.1)) := by
  unfold fX5_block_12
  exact zpc_if (fun _ => zpc_bi (w_fX5_copyOne h) (fun σ3 v4 hσ3 => w_fX5_block_77 hσ3)) (fun _ => zpc_if (fun _ => zpc_bi (w_fX5_compareOne h) (fun σ5 v6 hσ5 => w_fX5_block_77 hσ5)) (fun _ => zpc_if (fun _ => zpc_bi (w_fX5_takeOne h) (fun σ7 v8 hσ7 => w_fX5_block_77 hσ7)) (fun _ => zpc_bi (w_fX5_giveOne h) (fun σ9 v10 hσ9 => w_fX5_block_77 hσ9))))
theorem w_fX5_block {σ0 : zSt} {σ : zSt} {x1 : Int32} (h : zKeC σ0 σ) : zpc (fX5_block σ x1) (fun r => zKeC σ0 (r.1)) := by
  unfold fX5_block
  exact zpc_if (fun _ => w_fX5_block_12 h) (fun _ => w_fX5_block_12 h)
theorem w_fX5_turnDigits_102 {σ0 : zSt} {σ : zSt} {s0 : Int32} {s1 : Int32} {s2 : Int32} (h : zKeC σ0 σ) : zpc (fX5_turnDigits_102 σ s0 s1 s2) (fun r => zKeC σ0 (r)) := by
  unfold fX5_turnDigits_102
  exact zpc_ck (zpc_bs (zKeC.wi h (by decide)) (fun σ1 hσ1 => zpc_ck (zpc_ck (zpc_bi (w_fX5_by hσ1) (fun σ2 v3 hσ2 => zpc_ck (zpc_bi (w_fX5_parity hσ2) (fun σ4 v5 hσ4 => zpc_ck (zpc_bs (zKeC.wi hσ4 (by decide)) (fun σ6 hσ6 => zpc_some hσ6)))))))))
theorem w_fX5_turnDigits_70 {σ0 : zSt} {σ : zSt} {x1 : Int32} {x3 : Int32} {s0 : Int32} {s1 : Int32} (h : zKeC σ0 σ) : zpc (fX5_turnDigits_70 σ x1 x3 s0 s1) (fun r => zKeC σ0 (r)) := by
  unfold fX5_turnDigits_70
  exact zpc_bu (w_fX2_write h) (fun σ7 hσ7 => zpc_ck (zpc_if (fun _ => w_fX5_turnDigits_102 hσ7) (fun _ => w_fX5_turnDigits_102 hσ7)))
theorem w_fX5_turnDigits {σ0 : zSt} {σ : zSt} {x1 : Int32} (h : zKeC σ0 σ) : zpc (fX5_turnDigits σ x1) (fun r => zKeC σ0 (r)) := by
  unfold fX5_turnDigits
  exact zpc_bi (w_fX5_pairAt h) (fun σ8 v9 hσ8 => zpc_bi (w_fX2_read hσ8) (fun σ10 v11 hσ10 => zpc_ck (zpc_bv (fun v12 _ => zpc_ck (zpc_bs (zKeC.wi hσ10 (by decide)) (fun σ13 hσ13 => zpc_if (fun _ => w_fX5_turnDigits_70 hσ13) (fun _ => w_fX5_turnDigits_70 hσ13)))))))
theorem w_fX5_moreOfA_139 {σ0 : zSt} {σ : zSt} {s0 : Int32} {s1 : Int32} {s2 : Int32} (h : zKeC σ0 σ) : zpc (fX5_moreOfA_139 σ s0 s1 s2) (fun r => zKeC σ0 (r.1)) := by
  unfold fX5_moreOfA_139
  exact zpc_ck (zpc_bs (zKeC.wi h (by decide)) (fun σ1 hσ1 => zpc_some hσ1))
theorem w_fX5_moreOfA_99 {σ0 : zSt} {σ : zSt} {s0 : Int32} {s1 : Int32} (h : zKeC σ0 σ) : zpc (fX5_moreOfA_99 σ s0 s1) (fun r => zKeC σ0 (r.1)) := by
  unfold fX5_moreOfA_99
  exact zpc_ck (zpc_bs (zKeC.wi h (by decide)) (fun σ2 hσ2 => zpc_ck (zpc_ck (zpc_bi (w_fX5_by hσ2) (fun σ3 v4 hσ3 => zpc_ck (zpc_if (fun _ => w_fX5_moreOfA_139 hσ3) (fun _ => w_fX5_moreOfA_139 hσ3)))))))
theorem w_fX5_moreOfA_72 {σ0 : zSt} {σ : zSt} {x1 : Int32} (h : zKeC σ0 σ) : zpc (fX5_moreOfA_72 σ x1) (fun r => zKeC σ0 (r.1)) := by
  unfold fX5_moreOfA_72
  exact zpc_if (fun _ => zpc_ck (w_fX5_moreOfA_99 h)) (fun _ => zpc_ck (w_fX5_moreOfA_99 h))
theorem w_fX5_moreOfA_155 {σ0 : zSt} {σ : zSt} {s0 : Int32} (h : zKeC σ0 σ) : zpc (fX5_moreOfA_155 σ s0) (fun r => zKeC σ0 (r.1)) := by
  unfold fX5_moreOfA_155
  exact zpc_bu (w_fX5_turnDigits h) (fun σ5 hσ5 => zpc_some hσ5)
theorem w_fX5_moreOfA_144 {σ0 : zSt} {σ : zSt} {x1 : Int32} (h : zKeC σ0 σ) : zpc (fX5_moreOfA_144 σ x1) (fun r => zKeC σ0 (r.1)) := by
  unfold fX5_moreOfA_144
  exact zpc_if (fun _ => w_fX5_moreOfA_155 h) (fun _ => w_fX5_moreOfA_155 h)
theorem w_fX5_moreOfA {σ0 : zSt} {σ : zSt} {x1 : Int32} (h : zKeC σ0 σ) : zpc (fX5_moreOfA σ x1) (fun r => zKeC σ0 (r.1)) := by
  unfold fX5_moreOfA
  exact zpc_if (fun _ => zpc_ck (zpc_ck (zpc_bs (zKeC.wi h (by decide)) (fun σ6 hσ6 => zpc_some hσ6)))) (fun _ => zpc_if (fun _ => zpc_ck (zpc_ck (zpc_bs (zKeC.wi h (by decide)) (fun σ7 hσ7 => zpc_some hσ7)))) (fun _ => zpc_if (fun _ => w_fX5_moreOfA_72 h) (fun _ => zpc_if (fun _ => w_fX5_moreOfA_72 h) (fun _ => zpc_if (fun _ => w_fX5_moreOfA_144 h) (fun _ => zpc_if (fun _ => w_fX5_moreOfA_144 h) (fun _ => zpc_some h))))))
theorem w_fX5_pop {σ0 : zSt} {σ : zSt} (h : zKeC σ0 σ) : zpc (fX5_pop σ) (fun r => zKeC σ0 (r.1)) := by
  unfold fX5_pop
  exact zpc_ck (zpc_bi (w_fX2_read h) (fun σ1 v2 hσ1 => zpc_ck (zpc_bi (w_fX2_read hσ1) (fun σ3 v4 hσ3 => zpc_bv (fun v5 _ => zpc_ck (zpc_ck (zpc_bs (zKeC.wi hσ3 (by decide)) (fun σ6 hσ6 => zpc_some hσ6))))))))
theorem w_fX5_difference_72 {σ0 : zSt} {σ : zSt} {x5 : Int32} {s0 : Int32} {s1 : Int32} {s2 : Int32} (h : zKeC σ0 σ) : zpc (fX5_difference_72 σ x5 s0 s1 s2) (fun r => zKeC σ0 (r.1)) := by
  unfold fX5_difference_72
  exact zpc_ck (zpc_bs (zKeC.wi h (by decide)) (fun σ1 hσ1 => zpc_some hσ1))
theorem w_fX5_difference_59 {σ0 : zSt} {σ : zSt} {x4 : Int32} {x5 : Int32} {s0 : Int32} {s1 : Int32} {s2 : Int32} (h : zKeC σ0 σ) : zpc (fX5_difference_59 σ x4 x5 s0 s1 s2) (fun r => zKeC σ0 (r.1)) := by
  unfold fX5_difference_59
  exact zpc_if (fun _ => w_fX5_difference_72 h) (fun _ => w_fX5_difference_72 h)
theorem w_fX5_difference {σ0 : zSt} {σ : zSt} {x1 : Int32} {x2 : Int32} {x3 : Int32} (h : zKeC σ0 σ) : zpc (fX5_difference σ x1 x2 x3) (fun r => zKeC σ0 (r.1)) := by
  unfold fX5_difference
  exact zpc_bv (fun v2 _ => zpc_bv (fun v3 _ => zpc_bv (fun v4 _ => zpc_bi (w_fX5_by h) (fun σ5 v6 hσ5 => zpc_if (fun _ => w_fX5_difference_59 hσ5) (fun _ => w_fX5_difference_59 hσ5)))))
theorem w_fX5_fetchWord {σ0 : zSt} {σ : zSt} (h : zKeC σ0 σ) : zpc (fX5_fetchWord σ) (fun r => zKeC σ0 (r.1)) := by
  unfold fX5_fetchWord
  exact zpc_ck (zpc_bi (w_fX2_read h) (fun σ1 v2 hσ1 => zpc_ck (zpc_bi (w_fX2_read hσ1) (fun σ3 v4 hσ3 => zpc_bv (fun v5 _ => zpc_ck (zpc_ck (zpc_bs (zKeC.wi hσ3 (by decide)) (fun σ6 hσ6 => zpc_some hσ6))))))))
theorem w_fX5_hl_27 {σ0 : zSt} {σ : zSt} {s0 : Int32} (h : zKeC σ0 σ) : zpc (fX5_hl_27 σ s0) (fun r => zKeC σ0 (r.1)) := by
  unfold fX5_hl_27
  exact zpc_some h
theorem w_fX5_hl {σ0 : zSt} {σ : zSt} (h : zKeC σ0 σ) : zpc (fX5_hl σ) (fun r => zKeC σ0 (r.1)) := by
  unfold fX5_hl
  exact zpc_if (fun _ => zpc_bi (w_fX5_pairAt h) (fun σ1 v2 hσ1 => w_fX5_hl_27 hσ1)) (fun _ => zpc_ck (w_fX5_hl_27 h))
theorem w_fX5_pair {σ0 : zSt} {σ : zSt} {x1 : Int32} (h : zKeC σ0 σ) : zpc (fX5_pair σ x1) (fun r => zKeC σ0 (r.1)) := by
  unfold fX5_pair
  exact zpc_if (fun _ => zpc_bi (w_fX5_pairAt h) (fun σ1 v2 hσ1 => zpc_some hσ1)) (fun _ => zpc_if (fun _ => zpc_bi (w_fX5_pairAt h) (fun σ3 v4 hσ3 => zpc_some hσ3)) (fun _ => zpc_if (fun _ => zpc_bi (w_fX5_hl h) (fun σ5 v6 hσ5 => zpc_some hσ5)) (fun _ => zpc_ck (zpc_some h))))
theorem w_fX5_writeWord {σ0 : zSt} {σ : zSt} {x1 : Int32} {x2 : Int32} (h : zKeC σ0 σ) : zpc (fX5_writeWord σ x1 x2) (fun r => zKeC σ0 (r)) := by
  unfold fX5_writeWord
  exact zpc_bu (w_fX2_write h) (fun σ1 hσ1 => zpc_bu (w_fX2_write hσ1) (fun σ2 hσ2 => zpc_some hσ2))
theorem w_fX5_putHl_32 {σ0 : zSt} {σ : zSt} (h : zKeC σ0 σ) : zpc (fX5_putHl_32 σ) (fun r => zKeC σ0 (r)) := by
  unfold fX5_putHl_32
  exact zpc_some h
theorem w_fX5_putHl {σ0 : zSt} {σ : zSt} {x1 : Int32} (h : zKeC σ0 σ) : zpc (fX5_putHl σ x1) (fun r => zKeC σ0 (r)) := by
  unfold fX5_putHl
  exact zpc_if (fun _ => zpc_bu (w_fX5_putPairAt h) (fun σ2 hσ2 => w_fX5_putHl_32 hσ2)) (fun _ => zpc_ck (zpc_bs (zKeC.wi h (by decide)) (fun σ1 hσ1 => w_fX5_putHl_32 hσ1)))
theorem w_fX5_putPair_65 {σ0 : zSt} {σ : zSt} (h : zKeC σ0 σ) : zpc (fX5_putPair_65 σ) (fun r => zKeC σ0 (r)) := by
  unfold fX5_putPair_65
  exact zpc_some h
theorem w_fX5_putPair {σ0 : zSt} {σ : zSt} {x1 : Int32} {x2 : Int32} (h : zKeC σ0 σ) : zpc (fX5_putPair σ x1 x2) (fun r => zKeC σ0 (r)) := by
  unfold fX5_putPair
  exact zpc_if (fun _ => zpc_bu (w_fX5_putPairAt h) (fun σ1 hσ1 => w_fX5_putPair_65 hσ1)) (fun _ => zpc_if (fun _ => zpc_bu (w_fX5_putPairAt h) (fun σ2 hσ2 => w_fX5_putPair_65 hσ2)) (fun _ => zpc_if (fun _ => zpc_bu (w_fX5_putHl h) (fun σ3 hσ3 => w_fX5_putPair_65 hσ3)) (fun _ => zpc_ck (zpc_bs (zKeC.wi h (by decide)) (fun σ4 hσ4 => w_fX5_putPair_65 hσ4)))))
theorem w_fX5_farPair_51 {σ0 : zSt} {σ : zSt} (h : zKeC σ0 σ) : zpc (fX5_farPair_51 σ) (fun r => zKeC σ0 (r.1)) := by
  unfold fX5_farPair_51
  exact zpc_some h
theorem w_fX5_farPair {σ0 : zSt} {σ : zSt} {x1 : Int32} (h : zKeC σ0 σ) : zpc (fX5_farPair σ x1) (fun r => zKeC σ0 (r.1)) := by
  unfold fX5_farPair
  exact zpc_bi (w_fX5_fetchWord h) (fun σ1 v2 hσ1 => zpc_ck (zpc_bs (zKeC.wi hσ1 (by decide)) (fun σ3 hσ3 => zpc_if (fun _ => zpc_bi (w_fX5_pair hσ3) (fun σ7 v8 hσ7 => zpc_bu (w_fX5_writeWord hσ7) (fun σ9 hσ9 => w_fX5_farPair_51 hσ9))) (fun _ => zpc_bi (w_fX5_readWord hσ3) (fun σ4 v5 hσ4 => zpc_bu (w_fX5_putPair hσ4) (fun σ6 hσ6 => w_fX5_farPair_51 hσ6))))))
theorem w_fX5_putWide_44 {σ0 : zSt} {σ : zSt} {x1 : Int32} {x2 : Int32} {x3 : Int32} {s0 : Int32} {s1 : Int32} {s2 : Int32} (h : zKeC σ0 σ) : zpc (fX5_putWide_44 σ x1 x2 x3 s0 s1 s2) (fun r => zKeC σ0 (r)) := by
  unfold fX5_putWide_44
  exact zpc_ck (zpc_bs (zKeC.wi h (by decide)) (fun σ1 hσ1 => zpc_some hσ1))
theorem w_fX5_putWide {σ0 : zSt} {σ : zSt} {x1 : Int32} {x2 : Int32} {x3 : Int32} (h : zKeC σ0 σ) : zpc (fX5_putWide σ x1 x2 x3) (fun r => zKeC σ0 (r)) := by
  unfold fX5_putWide
  exact zpc_ck (zpc_bs (zKeC.wi h (by decide)) (fun σ2 hσ2 => zpc_bu (w_fX5_putHl hσ2) (fun σ3 hσ3 => zpc_if (fun _ => w_fX5_putWide_44 hσ3) (fun _ => w_fX5_putWide_44 hσ3))))
theorem w_fX5_takePair_63 {σ0 : zSt} {σ : zSt} {s0 : Int32} {s1 : Int32} {s2 : Int32} (h : zKeC σ0 σ) : zpc (fX5_takePair_63 σ s0 s1 s2) (fun r => zKeC σ0 (r.1)) := by
  unfold fX5_takePair_63
  exact zpc_ck (zpc_bs (zKeC.wi h (by decide)) (fun σ1 hσ1 => zpc_some hσ1))
theorem w_fX5_takePair {σ0 : zSt} {σ : zSt} {x1 : Int32} (h : zKeC σ0 σ) : zpc (fX5_takePair σ x1) (fun r => zKeC σ0 (r.1)) := by
  unfold fX5_takePair
  exact zpc_bi (w_fX5_hl h) (fun σ2 v3 hσ2 => zpc_bi (w_fX5_pair hσ2) (fun σ4 v5 hσ4 => zpc_ck (zpc_bv (fun v6 _ => zpc_bu (w_fX5_putWide hσ4) (fun σ7 hσ7 => zpc_bv (fun v8 _ => zpc_ck (zpc_if (fun _ => w_fX5_takePair_63 hσ7) (fun _ => w_fX5_takePair_63 hσ7))))))))
theorem w_fX5_addPairAndCarry_65 {σ0 : zSt} {σ : zSt} {s0 : Int32} {s1 : Int32} {s2 : Int32} (h : zKeC σ0 σ) : zpc (fX5_addPairAndCarry_65 σ s0 s1 s2) (fun r => zKeC σ0 (r.1)) := by
  unfold fX5_addPairAndCarry_65
  exact zpc_ck (zpc_bs (zKeC.wi h (by decide)) (fun σ1 hσ1 => zpc_some hσ1))
theorem w_fX5_addPairAndCarry {σ0 : zSt} {σ : zSt} {x1 : Int32} (h : zKeC σ0 σ) : zpc (fX5_addPairAndCarry σ x1) (fun r => zKeC σ0 (r.1)) := by
  unfold fX5_addPairAndCarry
  exact zpc_bi (w_fX5_hl h) (fun σ2 v3 hσ2 => zpc_bi (w_fX5_pair hσ2) (fun σ4 v5 hσ4 => zpc_ck (zpc_bv (fun v6 _ => zpc_bu (w_fX5_putWide hσ4) (fun σ7 hσ7 => zpc_bv (fun v8 _ => zpc_ck (zpc_if (fun _ => w_fX5_addPairAndCarry_65 hσ7) (fun _ => w_fX5_addPairAndCarry_65 hσ7))))))))
theorem w_fX5_takeFromPort_26 {σ0 : zSt} {σ : zSt} {x2 : Int32} (h : zKeC σ0 σ) : zpc (fX5_takeFromPort_26 σ x2) (fun r => zKeC σ0 (r)) := by
  unfold fX5_takeFromPort_26
  exact zpc_ck (zpc_bi (w_fX5_by h) (fun σ1 v2 hσ1 => zpc_bi (w_fX5_parity hσ1) (fun σ3 v4 hσ3 => zpc_ck (zpc_bs (zKeC.wi hσ3 (by decide)) (fun σ5 hσ5 => zpc_some hσ5)))))
theorem w_fX5_takeFromPort {σ0 : zSt} {σ : zSt} {x1 : Int32} (h : zKeC σ0 σ) : zpc (fX5_takeFromPort σ x1) (fun r => zKeC σ0 (r)) := by
  unfold fX5_takeFromPort
  exact zpc_ck (zpc_bi (w_fX4_read h) (fun σ6 v7 hσ6 => zpc_if (fun _ => w_fX5_takeFromPort_26 hσ6) (fun _ => zpc_bu (w_fX5_putOne hσ6) (fun σ8 hσ8 => w_fX5_takeFromPort_26 hσ8))))
theorem w_fX5_behindEd_160 {σ0 : zSt} {σ : zSt} {s0 : Int32} (h : zKeC σ0 σ) : zpc (fX5_behindEd_160 σ s0) (fun r => zKeC σ0 (r.1)) := by
  unfold fX5_behindEd_160
  exact zpc_some h
theorem w_fX5_behindEd_131 {σ0 : zSt} {σ : zSt} {s0 : Int32} {s1 : Int32} (h : zKeC σ0 σ) : zpc (fX5_behindEd_131 σ s0 s1) (fun r => zKeC σ0 (r.1)) := by
  unfold fX5_behindEd_131
  exact zpc_bu (w_fX4_write h) (fun σ1 hσ1 => zpc_some hσ1)
theorem w_fX5_behindEd {σ0 : zSt} {σ : zSt} {x1 : Int32} (h : zKeC σ0 σ) : zpc (fX5_behindEd σ x1) (fun r => zKeC σ0 (r.1)) := by
  unfold fX5_behindEd
  exact zpc_if (fun _ => zpc_bv (fun v2 _ => zpc_if (fun _ => zpc_bi (w_fX5_pairAt h) (fun σ3 v4 hσ3 => zpc_ck (zpc_bs (zKeC.wi hσ3 (by decide)) (fun σ5 hσ5 => zpc_bu (w_fX5_takeFromPort hσ5) (fun σ6 hσ6 => zpc_some hσ6))))) (fun _ => zpc_if (fun _ => zpc_bi (w_fX5_pairAt h) (fun σ7 v8 hσ7 => zpc_ck (zpc_bs (zKeC.wi hσ7 (by decide)) (fun σ9 hσ9 => zpc_ck (zpc_if (fun _ => w_fX5_behindEd_131 hσ9) (fun _ => zpc_bi (w_fX5_one hσ9) (fun σ10 v11 hσ10 => w_fX5_behindEd_131 hσ10))))))) (fun _ => zpc_if (fun _ => zpc_if (fun _ => zpc_bi (w_fX5_takePair h) (fun σ14 v15 hσ14 => w_fX5_behindEd_160 hσ14)) (fun _ => zpc_bi (w_fX5_addPairAndCarry h) (fun σ12 v13 hσ12 => w_fX5_behindEd_160 hσ12))) (fun _ => zpc_if (fun _ => zpc_bi (w_fX5_farPair h) (fun σ16 v17 hσ16 => zpc_some hσ16)) (fun _ => zpc_if (fun _ => zpc_ck (zpc_bi (w_fX5_difference h) (fun σ18 v19 hσ18 => zpc_ck (zpc_bs (zKeC.wi hσ18 (by decide)) (fun σ20 hσ20 => zpc_some hσ20))))) (fun _ => zpc_if (fun _ => zpc_bi (w_fX5_pop h) (fun σ21 v22 hσ21 => zpc_bu (w_fX5_goTo hσ21) (fun σ23 hσ23 => zpc_ck (zpc_ck (zpc_bs (zKeC.wi hσ23 (by decide)) (fun σ24 hσ24 => zpc_some hσ24)))))) (fun _ => zpc_if (fun _ => zpc_ck (zpc_bs (zKeC.wi h (by decide)) (fun σ25 hσ25 => zpc_some hσ25))) (fun _ => zpc_bi (w_fX5_moreOfA h) (fun σ26 v27 hσ26 => zpc_some hσ26)))))))))) (fun _ => zpc_some h)
theorem w_fX5_exchange_211 {σ0 : zSt} {σ : zSt} {x1 : Int32} (h : zKeC σ0 σ) : zpc (fX5_exchange_211 σ x1) (fun r => zKeC σ0 (r.1)) := by
  unfold fX5_exchange_211
  exact zpc_ck (zpc_bs (zKeC.wi h (by decide)) (fun σ1 hσ1 => zpc_ck (zpc_bs (zKeC.wi hσ1 (by decide)) (fun σ2 hσ2 => zpc_ck (zpc_bs (zKeC.wi hσ2 (by decide)) (fun σ3 hσ3 => zpc_some hσ3))))))
theorem w_fX5_exchange {σ0 : zSt} {σ : zSt} {x1 : Int32} (h : zKeC σ0 σ) : zpc (fX5_exchange σ x1) (fun r => zKeC σ0 (r.1)) := by
  unfold fX5_exchange
  exact zpc_if (fun _ => zpc_bi (w_fX5_fetchWord h) (fun σ4 v5 hσ4 => zpc_bu (w_fX5_goTo hσ4) (fun σ6 hσ6 => zpc_some hσ6))) (fun _ => zpc_if (fun _ => w_fX5_exchange_211 h) (fun _ => zpc_if (fun _ => zpc_bi (w_fX5_fetch h) (fun σ7 v8 hσ7 => zpc_ck (zpc_bu (w_fX4_write hσ7) (fun σ9 hσ9 => zpc_ck (zpc_ck (zpc_bs (zKeC.wi hσ9 (by decide)) (fun σ10 hσ10 => zpc_some hσ10))))))) (fun _ => zpc_if (fun _ => zpc_bi (w_fX5_fetch h) (fun σ11 v12 hσ11 => zpc_ck (zpc_ck (zpc_bs (zKeC.wi hσ11 (by decide)) (fun σ13 hσ13 => zpc_bi (w_fX4_read hσ13) (fun σ14 v15 hσ14 => zpc_ck (zpc_bs (zKeC.wi hσ14 (by decide)) (fun σ16 hσ16 => zpc_some hσ16)))))))) (fun _ => zpc_if (fun _ => zpc_ck (zpc_bi (w_fX5_readWord h) (fun σ17 v18 hσ17 => zpc_ck (zpc_bi (w_fX5_hl hσ17) (fun σ19 v20 hσ19 => zpc_bu (w_fX5_writeWord hσ19) (fun σ21 hσ21 => zpc_bu (w_fX5_putHl hσ21) (fun σ22 hσ22 => zpc_ck (zpc_bs (zKeC.wi hσ22 (by decide)) (fun σ23 hσ23 => zpc_some hσ23))))))))) (fun _ => zpc_if (fun _ => zpc_bi (w_fX5_pairAt h) (fun σ24 v25 hσ24 => zpc_bi (w_fX5_pairAt hσ24) (fun σ26 v27 hσ26 => zpc_bu (w_fX5_putPairAt hσ26) (fun σ28 hσ28 => zpc_bu (w_fX5_putPairAt hσ28) (fun σ29 hσ29 => zpc_some hσ29))))) (fun _ => w_fX5_exchange_211 h))))))
theorem w_fX5_sum_61 {σ0 : zSt} {σ : zSt} {x4 : Int32} {x5 : Int32} {s0 : Int32} {s1 : Int32} {s2 : Int32} (h : zKeC σ0 σ) : zpc (fX5_sum_61 σ x4 x5 s0 s1 s2) (fun r => zKeC σ0 (r.1)) := by
  unfold fX5_sum_61
  exact zpc_ck (zpc_bs (zKeC.wi h (by decide)) (fun σ1 hσ1 => zpc_some hσ1))
theorem w_fX5_sum {σ0 : zSt} {σ : zSt} {x1 : Int32} {x2 : Int32} {x3 : Int32} (h : zKeC σ0 σ) : zpc (fX5_sum σ x1 x2 x3) (fun r => zKeC σ0 (r.1)) := by
  unfold fX5_sum
  exact zpc_bv (fun v2 _ => zpc_bv (fun v3 _ => zpc_bv (fun v4 _ => zpc_bi (w_fX5_by h) (fun σ5 v6 hσ5 => zpc_if (fun _ => w_fX5_sum_61 hσ5) (fun _ => w_fX5_sum_61 hσ5)))))
theorem w_fX5_doWith_292 {σ0 : zSt} {σ : zSt} (h : zKeC σ0 σ) : zpc (fX5_doWith_292 σ) (fun r => zKeC σ0 (r)) := by
  unfold fX5_doWith_292
  exact zpc_some h
theorem w_fX5_doWith {σ0 : zSt} {σ : zSt} {x1 : Int32} {x2 : Int32} (h : zKeC σ0 σ) : zpc (fX5_doWith σ x1 x2) (fun r => zKeC σ0 (r)) := by
  unfold fX5_doWith
  exact zpc_if (fun _ => zpc_ck (zpc_bi (w_fX5_sum h) (fun σ1 v2 hσ1 => zpc_ck (zpc_bs (zKeC.wi hσ1 (by decide)) (fun σ3 hσ3 => w_fX5_doWith_292 hσ3))))) (fun _ => zpc_if (fun _ => zpc_ck (zpc_ck (zpc_bi (w_fX5_sum h) (fun σ4 v5 hσ4 => zpc_ck (zpc_bs (zKeC.wi hσ4 (by decide)) (fun σ6 hσ6 => w_fX5_doWith_292 hσ6)))))) (fun _ => zpc_if (fun _ => zpc_ck (zpc_bi (w_fX5_difference h) (fun σ7 v8 hσ7 => zpc_ck (zpc_bs (zKeC.wi hσ7 (by decide)) (fun σ9 hσ9 => w_fX5_doWith_292 hσ9))))) (fun _ => zpc_if (fun _ => zpc_ck (zpc_ck (zpc_bi (w_fX5_difference h) (fun σ10 v11 hσ10 => zpc_ck (zpc_bs (zKeC.wi hσ10 (by decide)) (fun σ12 hσ12 => w_fX5_doWith_292 hσ12)))))) (fun _ => zpc_if (fun _ => zpc_ck (zpc_ck (zpc_bs (zKeC.wi h (by decide)) (fun σ13 hσ13 => zpc_ck (zpc_bi (w_fX5_by hσ13) (fun σ14 v15 hσ14 => zpc_ck (zpc_bi (w_fX5_parity hσ14) (fun σ16 v17 hσ16 => zpc_ck (zpc_bs (zKeC.wi hσ16 (by decide)) (fun σ18 hσ18 => w_fX5_doWith_292 hσ18)))))))))) (fun _ => zpc_if (fun _ => zpc_ck (zpc_ck (zpc_bs (zKeC.wi h (by decide)) (fun σ19 hσ19 => zpc_ck (zpc_bi (w_fX5_by hσ19) (fun σ20 v21 hσ20 => zpc_ck (zpc_bi (w_fX5_parity hσ20) (fun σ22 v23 hσ22 => zpc_ck (zpc_bs (zKeC.wi hσ22 (by decide)) (fun σ24 hσ24 => w_fX5_doWith_292 hσ24)))))))))) (fun _ => zpc_if (fun _ => zpc_ck (zpc_ck (zpc_bs (zKeC.wi h (by decide)) (fun σ25 hσ25 => zpc_ck (zpc_bi (w_fX5_by hσ25) (fun σ26 v27 hσ26 => zpc_ck (zpc_bi (w_fX5_parity hσ26) (fun σ28 v29 hσ28 => zpc_ck (zpc_bs (zKeC.wi hσ28 (by decide)) (fun σ30 hσ30 => w_fX5_doWith_292 hσ30)))))))))) (fun _ => zpc_ck (zpc_bi (w_fX5_difference h) (fun σ31 v32 hσ31 => zpc_ck (zpc_ck (zpc_bs (zKeC.wi hσ31 (by decide)) (fun σ33 hσ33 => w_fX5_doWith_292 hσ33))))))))))))
theorem w_fX5_callIf {σ0 : zSt} {σ : zSt} {x1 : Int32} (h : zKeC σ0 σ) : zpc (fX5_callIf σ x1) (fun r => zKeC σ0 (r.1)) := by
  unfold fX5_callIf
  exact zpc_bi (w_fX5_fetchWord h) (fun σ1 v2 hσ1 => zpc_ck (zpc_bs (zKeC.wi hσ1 (by decide)) (fun σ3 hσ3 => zpc_if (fun _ => zpc_some hσ3) (fun _ => zpc_ck (zpc_bu (w_fX5_push hσ3) (fun σ4 hσ4 => zpc_ck (zpc_bs (zKeC.wi hσ4 (by decide)) (fun σ5 hσ5 => zpc_some hσ5))))))))
theorem w_fX5_holds_44 {σ0 : zSt} {σ : zSt} {s0 : Int32} (h : zKeC σ0 σ) : zpc (fX5_holds_44 σ s0) (fun r => zKeC σ0 (r.1)) := by
  unfold fX5_holds_44
  exact zpc_ck (zpc_some h)
theorem w_fX5_holds_36 {σ0 : zSt} {σ : zSt} {s0 : Int32} {s1 : Int32} (h : zKeC σ0 σ) : zpc (fX5_holds_36 σ s0 s1) (fun r => zKeC σ0 (r.1)) := by
  unfold fX5_holds_36
  exact zpc_if (fun _ => w_fX5_holds_44 h) (fun _ => w_fX5_holds_44 h)
theorem w_fX5_holds_24 {σ0 : zSt} {σ : zSt} {x1 : Int32} {s0 : Int32} (h : zKeC σ0 σ) : zpc (fX5_holds_24 σ x1 s0) (fun r => zKeC σ0 (r.1)) := by
  unfold fX5_holds_24
  exact zpc_if (fun _ => w_fX5_holds_36 h) (fun _ => w_fX5_holds_36 h)
theorem w_fX5_holds {σ0 : zSt} {σ : zSt} {x1 : Int32} (h : zKeC σ0 σ) : zpc (fX5_holds σ x1) (fun r => zKeC σ0 (r.1)) := by
  unfold fX5_holds
  exact zpc_ck (zpc_ck (zpc_if (fun _ => w_fX5_holds_24 h) (fun _ => w_fX5_holds_24 h)))
theorem w_fX5_popPair_25 {σ0 : zSt} {σ : zSt} (h : zKeC σ0 σ) : zpc (fX5_popPair_25 σ) (fun r => zKeC σ0 (r.1)) := by
  unfold fX5_popPair_25
  exact zpc_some h
theorem w_fX5_popPair {σ0 : zSt} {σ : zSt} {x1 : Int32} (h : zKeC σ0 σ) : zpc (fX5_popPair σ x1) (fun r => zKeC σ0 (r.1)) := by
  unfold fX5_popPair
  exact zpc_bi (w_fX5_pop h) (fun σ1 v2 hσ1 => zpc_if (fun _ => zpc_bu (w_fX5_putPairAt hσ1) (fun σ4 hσ4 => w_fX5_popPair_25 hσ4)) (fun _ => zpc_bu (w_fX5_putPair hσ1) (fun σ3 hσ3 => w_fX5_popPair_25 hσ3)))
theorem w_fX5_changeWithOther {σ0 : zSt} {σ : zSt} {x1 : Int32} (h : zKeC σ0 σ) : zpc (fX5_changeWithOther σ x1) (fun r => zKeC σ0 (r)) := by
  unfold fX5_changeWithOther
  exact zpc_ck (zpc_bv (fun v1 _ => zpc_ck (zpc_ck (zpc_bs (zKeC.wi h (by decide)) (fun σ2 hσ2 => zpc_ck (zpc_bs (zKeC.wi hσ2 (by decide)) (fun σ3 hσ3 => zpc_some hσ3)))))))
theorem w_fX5_leave_41_body {σ0 : zSt} {k41 : zSt → Int32 → Option (zSt × Int32)} (hk41 : ∀ (y0 : zSt) (y1 : Int32), zKeC σ0 y0 → zpc (k41 y0 y1) (fun r => zKeC σ0 (r.1))) {σ : zSt} {x2 : Int32} (h : zKeC σ0 σ) : zpc (fX5_leave_41_body k41 σ x2) (fun r => zKeC σ0 (r.1)) := by
  unfold fX5_leave_41_body
  exact zpc_if (fun _ => zpc_some h) (fun _ => zpc_bu (w_fX5_changeWithOther h) (fun σ1 hσ1 => zpc_bv (fun v2 _ => hk41 _ _ hσ1)))
theorem w_fX5_leave_41 {σ0 : zSt} : ∀ (n : Nat) (y0 : zSt) (y1 : Int32), zKeC σ0 y0 → zpc (fX5_leave_41 n y0 y1) (fun r => zKeC σ0 (r.1)) := by
  intro n
  induction n with
  | zero => intro y0 y1 h; exact zpc_none
  | succ n ih => intro y0 y1 h; exact w_fX5_leave_41_body ih h
theorem w_fX5_leave {σ0 : zSt} {σ : zSt} {x1 : Int32} (h : zKeC σ0 σ) : zpc (fX5_leave σ x1) (fun r => zKeC σ0 (r.1)) := by
  unfold fX5_leave
  exact zpc_if (fun _ => zpc_bi (w_fX5_pop h) (fun σ3 v4 hσ3 => zpc_bu (w_fX5_goTo hσ3) (fun σ5 hσ5 => zpc_some hσ5))) (fun _ => zpc_if (fun _ => w_fX5_leave_41 _ _ _ h) (fun _ => zpc_if (fun _ => zpc_bi (w_fX5_hl h) (fun σ6 v7 hσ6 => zpc_ck (zpc_bs (zKeC.wi hσ6 (by decide)) (fun σ8 hσ8 => zpc_some hσ8)))) (fun _ => zpc_bi (w_fX5_hl h) (fun σ9 v10 hσ9 => zpc_ck (zpc_bs (zKeC.wi hσ9 (by decide)) (fun σ11 hσ11 => zpc_some hσ11))))))
theorem w_fX5_lastQuarter_196 {σ0 : zSt} {σ : zSt} {x2 : Int32} (h : zKeC σ0 σ) : zpc (fX5_lastQuarter_196 σ x2) (fun r => zKeC σ0 (r.1)) := by
  unfold fX5_lastQuarter_196
  exact zpc_ck (zpc_bu (w_fX5_push h) (fun σ1 hσ1 => zpc_bu (w_fX5_goTo hσ1) (fun σ2 hσ2 => zpc_some hσ2)))
theorem w_fX5_lastQuarter_178 {σ0 : zSt} {σ : zSt} {s0 : Int32} (h : zKeC σ0 σ) : zpc (fX5_lastQuarter_178 σ s0) (fun r => zKeC σ0 (r.1)) := by
  unfold fX5_lastQuarter_178
  exact zpc_bu (w_fX5_push h) (fun σ3 hσ3 => zpc_some hσ3)
theorem w_fX5_lastQuarter_130 {σ0 : zSt} {σ : zSt} (h : zKeC σ0 σ) : zpc (fX5_lastQuarter_130 σ) (fun r => zKeC σ0 (r.1)) := by
  unfold fX5_lastQuarter_130
  exact zpc_some h
theorem w_fX5_lastQuarter_96 {σ0 : zSt} {σ : zSt} {s0 : Int32} (h : zKeC σ0 σ) : zpc (fX5_lastQuarter_96 σ s0) (fun r => zKeC σ0 (r.1)) := by
  unfold fX5_lastQuarter_96
  exact zpc_some h
theorem w_fX5_lastQuarter {σ0 : zSt} {σ : zSt} {x1 : Int32} (h : zKeC σ0 σ) : zpc (fX5_lastQuarter σ x1) (fun r => zKeC σ0 (r.1)) := by
  unfold fX5_lastQuarter
  exact zpc_bv (fun v4 _ => zpc_if (fun _ => zpc_bi (w_fX5_holds h) (fun σ5 v6 hσ5 => zpc_if (fun _ => zpc_some hσ5) (fun _ => zpc_bi (w_fX5_pop hσ5) (fun σ7 v8 hσ7 => zpc_bu (w_fX5_goTo hσ7) (fun σ9 hσ9 => zpc_some hσ9))))) (fun _ => zpc_if (fun _ => zpc_if (fun _ => zpc_bi (w_fX5_popPair h) (fun σ12 v13 hσ12 => w_fX5_lastQuarter_96 hσ12)) (fun _ => zpc_bi (w_fX5_leave h) (fun σ10 v11 hσ10 => w_fX5_lastQuarter_96 hσ10))) (fun _ => zpc_if (fun _ => zpc_bi (w_fX5_fetchWord h) (fun σ14 v15 hσ14 => zpc_ck (zpc_bs (zKeC.wi hσ14 (by decide)) (fun σ16 hσ16 => zpc_bi (w_fX5_holds hσ16) (fun σ17 v18 hσ17 => zpc_if (fun _ => w_fX5_lastQuarter_130 hσ17) (fun _ => zpc_ck (zpc_ck (zpc_bs (zKeC.wi hσ17 (by decide)) (fun σ19 hσ19 => w_fX5_lastQuarter_130 hσ19))))))))) (fun _ => zpc_if (fun _ => w_fX5_lastQuarter_196 h) (fun _ => zpc_if (fun _ => zpc_bi (w_fX5_holds h) (fun σ20 v21 hσ20 => zpc_bi (w_fX5_callIf hσ20) (fun σ22 v23 hσ22 => zpc_some hσ22))) (fun _ => zpc_if (fun _ => zpc_if (fun _ => zpc_bi (w_fX5_callIf h) (fun σ28 v29 hσ28 => zpc_some hσ28)) (fun _ => zpc_if (fun _ => zpc_bi (w_fX5_pairAt h) (fun σ26 v27 hσ26 => w_fX5_lastQuarter_178 hσ26)) (fun _ => zpc_bi (w_fX5_pair h) (fun σ24 v25 hσ24 => w_fX5_lastQuarter_178 hσ24)))) (fun _ => zpc_if (fun _ => zpc_bi (w_fX5_fetch h) (fun σ30 v31 hσ30 => zpc_bu (w_fX5_doWith hσ30) (fun σ32 hσ32 => zpc_some hσ32))) (fun _ => w_fX5_lastQuarter_196 h))))))))
theorem w_fX5_doWithRegister_33 {σ0 : zSt} {σ : zSt} {s0 : Int32} (h : zKeC σ0 σ) : zpc (fX5_doWithRegister_33 σ s0) (fun r => zKeC σ0 (r.1)) := by
  unfold fX5_doWithRegister_33
  exact zpc_some h
theorem w_fX5_doWithRegister {σ0 : zSt} {σ : zSt} {x1 : Int32} (h : zKeC σ0 σ) : zpc (fX5_doWithRegister σ x1) (fun r => zKeC σ0 (r.1)) := by
  unfold fX5_doWithRegister
  exact zpc_bi (w_fX5_one h) (fun σ1 v2 hσ1 => zpc_bu (w_fX5_doWith hσ1) (fun σ3 hσ3 => zpc_if (fun _ => w_fX5_doWithRegister_33 hσ3) (fun _ => w_fX5_doWithRegister_33 hσ3)))
theorem w_fX5_move_56 {σ0 : zSt} {σ : zSt} {s0 : Int32} (h : zKeC σ0 σ) : zpc (fX5_move_56 σ s0) (fun r => zKeC σ0 (r.1)) := by
  unfold fX5_move_56
  exact zpc_some h
theorem w_fX5_move_50 {σ0 : zSt} {σ : zSt} (h : zKeC σ0 σ) : zpc (fX5_move_50 σ) (fun r => zKeC σ0 (r.1)) := by
  unfold fX5_move_50
  exact w_fX5_move_56 h
theorem w_fX5_move {σ0 : zSt} {σ : zSt} {x1 : Int32} (h : zKeC σ0 σ) : zpc (fX5_move σ x1) (fun r => zKeC σ0 (r.1)) := by
  unfold fX5_move
  exact zpc_if (fun _ => zpc_ck (zpc_bs (zKeC.wi h (by decide)) (fun σ6 hσ6 => zpc_some hσ6))) (fun _ => zpc_bv (fun v1 _ => zpc_bv (fun v2 _ => zpc_bi (w_fX5_one h) (fun σ3 v4 hσ3 => zpc_bu (w_fX5_putOne hσ3) (fun σ5 hσ5 => zpc_if (fun _ => w_fX5_move_50 hσ5) (fun _ => zpc_if (fun _ => w_fX5_move_50 hσ5) (fun _ => w_fX5_move_56 hσ5)))))))
theorem w_fX5_adjustA_202 {σ0 : zSt} {σ : zSt} {x4 : Int32} {s0 : Int32} {s1 : Int32} {s2 : Int32} (h : zKeC σ0 σ) : zpc (fX5_adjustA_202 σ x4 s0 s1 s2) (fun r => zKeC σ0 (r)) := by
  unfold fX5_adjustA_202
  exact zpc_ck (zpc_ck (zpc_bs (zKeC.wi h (by decide)) (fun σ1 hσ1 => zpc_some hσ1)))
theorem w_fX5_adjustA_161 {σ0 : zSt} {σ : zSt} {x4 : Int32} {x6 : Int32} {s0 : Int32} (h : zKeC σ0 σ) : zpc (fX5_adjustA_161 σ x4 x6 s0) (fun r => zKeC σ0 (r)) := by
  unfold fX5_adjustA_161
  exact zpc_bv (fun v2 _ => zpc_ck (zpc_bs (zKeC.wi h (by decide)) (fun σ3 hσ3 => zpc_bi (w_fX5_by hσ3) (fun σ4 v5 hσ4 => zpc_bi (w_fX5_parity hσ4) (fun σ6 v7 hσ6 => zpc_if (fun _ => w_fX5_adjustA_202 hσ6) (fun _ => w_fX5_adjustA_202 hσ6))))))
theorem w_fX5_adjustA_134 {σ0 : zSt} {σ : zSt} {x3 : Int32} {x4 : Int32} {x5 : Int32} {s0 : Int32} (h : zKeC σ0 σ) : zpc (fX5_adjustA_134 σ x3 x4 x5 s0) (fun r => zKeC σ0 (r)) := by
  unfold fX5_adjustA_134
  exact zpc_if (fun _ => zpc_ck (w_fX5_adjustA_161 h)) (fun _ => zpc_ck (w_fX5_adjustA_161 h))
theorem w_fX5_adjustA_119 {σ0 : zSt} {σ : zSt} {x3 : Int32} {x4 : Int32} {x5 : Int32} (h : zKeC σ0 σ) : zpc (fX5_adjustA_119 σ x3 x4 x5) (fun r => zKeC σ0 (r)) := by
  unfold fX5_adjustA_119
  exact w_fX5_adjustA_134 h
theorem w_fX5_adjustA_98 {σ0 : zSt} {σ : zSt} {x1 : Int32} {x2 : Int32} {x3 : Int32} {x4 : Int32} {s0 : Int32} {s1 : Int32} (h : zKeC σ0 σ) : zpc (fX5_adjustA_98 σ x1 x2 x3 x4 s0 s1) (fun r => zKeC σ0 (r)) := by
  unfold fX5_adjustA_98
  exact zpc_bv (fun v8 _ => zpc_if (fun _ => zpc_if (fun _ => w_fX5_adjustA_134 h) (fun _ => w_fX5_adjustA_134 h)) (fun _ => zpc_if (fun _ => w_fX5_adjustA_119 h) (fun _ => zpc_if (fun _ => w_fX5_adjustA_119 h) (fun _ => w_fX5_adjustA_134 h))))
theorem w_fX5_adjustA_87 {σ0 : zSt} {σ : zSt} {x1 : Int32} {x2 : Int32} {x3 : Int32} {x4 : Int32} {s0 : Int32} (h : zKeC σ0 σ) : zpc (fX5_adjustA_87 σ x1 x2 x3 x4 s0) (fun r => zKeC σ0 (r)) := by
  unfold fX5_adjustA_87
  exact zpc_if (fun _ => w_fX5_adjustA_98 h) (fun _ => w_fX5_adjustA_98 h)
theorem w_fX5_adjustA_81 {σ0 : zSt} {σ : zSt} {x1 : Int32} {x2 : Int32} {x3 : Int32} {x4 : Int32} (h : zKeC σ0 σ) : zpc (fX5_adjustA_81 σ x1 x2 x3 x4) (fun r => zKeC σ0 (r)) := by
  unfold fX5_adjustA_81
  exact w_fX5_adjustA_87 h
theorem w_fX5_adjustA_69 {σ0 : zSt} {σ : zSt} {x1 : Int32} {x2 : Int32} {x3 : Int32} {s0 : Int32} (h : zKeC σ0 σ) : zpc (fX5_adjustA_69 σ x1 x2 x3 s0) (fun r => zKeC σ0 (r)) := by
  unfold fX5_adjustA_69
  exact zpc_if (fun _ => w_fX5_adjustA_81 h) (fun _ => zpc_if (fun _ => w_fX5_adjustA_87 h) (fun _ => w_fX5_adjustA_81 h))
theorem w_fX5_adjustA_44 {σ0 : zSt} {σ : zSt} {x1 : Int32} {x2 : Int32} {s0 : Int32} (h : zKeC σ0 σ) : zpc (fX5_adjustA_44 σ x1 x2 s0) (fun r => zKeC σ0 (r)) := by
  unfold fX5_adjustA_44
  exact zpc_ck (zpc_if (fun _ => zpc_ck (w_fX5_adjustA_69 h)) (fun _ => w_fX5_adjustA_69 h))
theorem w_fX5_adjustA_27 {σ0 : zSt} {σ : zSt} {x1 : Int32} {s0 : Int32} (h : zKeC σ0 σ) : zpc (fX5_adjustA_27 σ x1 s0) (fun r => zKeC σ0 (r)) := by
  unfold fX5_adjustA_27
  exact zpc_ck (zpc_if (fun _ => w_fX5_adjustA_44 h) (fun _ => w_fX5_adjustA_44 h))
theorem w_fX5_adjustA {σ0 : zSt} {σ : zSt} (h : zKeC σ0 σ) : zpc (fX5_adjustA σ) (fun r => zKeC σ0 (r)) := by
  unfold fX5_adjustA
  exact zpc_ck (zpc_bv (fun v9 _ => zpc_ck (zpc_if (fun _ => w_fX5_adjustA_27 h) (fun _ => w_fX5_adjustA_27 h))))
theorem w_fX5_changeA_130 {σ0 : zSt} {σ : zSt} {s0 : Int32} {s1 : Int32} {s2 : Int32} (h : zKeC σ0 σ) : zpc (fX5_changeA_130 σ s0 s1 s2) (fun r => zKeC σ0 (r)) := by
  unfold fX5_changeA_130
  exact zpc_ck (zpc_ck (zpc_bs (zKeC.wi h (by decide)) (fun σ1 hσ1 => zpc_some hσ1)))
theorem w_fX5_changeA {σ0 : zSt} {σ : zSt} {x1 : Int32} (h : zKeC σ0 σ) : zpc (fX5_changeA σ x1) (fun r => zKeC σ0 (r)) := by
  unfold fX5_changeA
  exact zpc_ck (zpc_bv (fun v2 _ => zpc_ck (zpc_bv (fun v3 _ => zpc_if (fun _ => zpc_bu (w_fX5_adjustA h) (fun σ4 hσ4 => zpc_some hσ4)) (fun _ => zpc_if (fun _ => zpc_ck (zpc_ck (zpc_bs (zKeC.wi h (by decide)) (fun σ5 hσ5 => zpc_ck (zpc_ck (zpc_bs (zKeC.wi hσ5 (by decide)) (fun σ6 hσ6 => zpc_some hσ6))))))) (fun _ => zpc_if (fun _ => zpc_ck (zpc_ck (zpc_bs (zKeC.wi h (by decide)) (fun σ7 hσ7 => zpc_some hσ7)))) (fun _ => zpc_if (fun _ => zpc_if (fun _ => w_fX5_changeA_130 h) (fun _ => w_fX5_changeA_130 h)) (fun _ => zpc_ck (zpc_bi (w_fX5_turn h) (fun σ8 v9 hσ8 => zpc_ck (zpc_bs (zKeC.wi hσ8 (by decide)) (fun σ10 hσ10 => zpc_ck (zpc_ck (zpc_bs (zKeC.wi hσ10 (by decide)) (fun σ11 hσ11 => zpc_some hσ11)))))))))))))))
theorem w_fX5_oneLess_53 {σ0 : zSt} {σ : zSt} {x2 : Int32} {s0 : Int32} {s1 : Int32} {s2 : Int32} (h : zKeC σ0 σ) : zpc (fX5_oneLess_53 σ x2 s0 s1 s2) (fun r => zKeC σ0 (r.1)) := by
  unfold fX5_oneLess_53
  exact zpc_ck (zpc_bs (zKeC.wi h (by decide)) (fun σ1 hσ1 => zpc_some hσ1))
theorem w_fX5_oneLess_41 {σ0 : zSt} {σ : zSt} {x2 : Int32} {s0 : Int32} {s1 : Int32} {s2 : Int32} (h : zKeC σ0 σ) : zpc (fX5_oneLess_41 σ x2 s0 s1 s2) (fun r => zKeC σ0 (r.1)) := by
  unfold fX5_oneLess_41
  exact zpc_if (fun _ => w_fX5_oneLess_53 h) (fun _ => w_fX5_oneLess_53 h)
theorem w_fX5_oneLess {σ0 : zSt} {σ : zSt} {x1 : Int32} (h : zKeC σ0 σ) : zpc (fX5_oneLess σ x1) (fun r => zKeC σ0 (r.1)) := by
  unfold fX5_oneLess
  exact zpc_bv (fun v2 _ => zpc_ck (zpc_bi (w_fX5_by h) (fun σ3 v4 hσ3 => zpc_if (fun _ => w_fX5_oneLess_41 hσ3) (fun _ => w_fX5_oneLess_41 hσ3))))
theorem w_fX5_oneMore_52 {σ0 : zSt} {σ : zSt} {x2 : Int32} {s0 : Int32} {s1 : Int32} {s2 : Int32} (h : zKeC σ0 σ) : zpc (fX5_oneMore_52 σ x2 s0 s1 s2) (fun r => zKeC σ0 (r.1)) := by
  unfold fX5_oneMore_52
  exact zpc_ck (zpc_bs (zKeC.wi h (by decide)) (fun σ1 hσ1 => zpc_some hσ1))
theorem w_fX5_oneMore_39 {σ0 : zSt} {σ : zSt} {x2 : Int32} {s0 : Int32} {s1 : Int32} {s2 : Int32} (h : zKeC σ0 σ) : zpc (fX5_oneMore_39 σ x2 s0 s1 s2) (fun r => zKeC σ0 (r.1)) := by
  unfold fX5_oneMore_39
  exact zpc_if (fun _ => w_fX5_oneMore_52 h) (fun _ => w_fX5_oneMore_52 h)
theorem w_fX5_oneMore {σ0 : zSt} {σ : zSt} {x1 : Int32} (h : zKeC σ0 σ) : zpc (fX5_oneMore σ x1) (fun r => zKeC σ0 (r.1)) := by
  unfold fX5_oneMore
  exact zpc_bv (fun v2 _ => zpc_ck (zpc_bi (w_fX5_by h) (fun σ3 v4 hσ3 => zpc_if (fun _ => w_fX5_oneMore_39 hσ3) (fun _ => w_fX5_oneMore_39 hσ3))))
theorem w_fX5_far_78 {σ0 : zSt} {σ : zSt} (h : zKeC σ0 σ) : zpc (fX5_far_78 σ) (fun r => zKeC σ0 (r.1)) := by
  unfold fX5_far_78
  exact zpc_some h
theorem w_fX5_far_152 {σ0 : zSt} {σ : zSt} {s0 : Int32} (h : zKeC σ0 σ) : zpc (fX5_far_152 σ s0) (fun r => zKeC σ0 (r.1)) := by
  unfold fX5_far_152
  exact zpc_some h
theorem w_fX5_far_140 {σ0 : zSt} {σ : zSt} {x1 : Int32} (h : zKeC σ0 σ) : zpc (fX5_far_140 σ x1) (fun r => zKeC σ0 (r.1)) := by
  unfold fX5_far_140
  exact zpc_if (fun _ => w_fX5_far_152 h) (fun _ => w_fX5_far_152 h)
theorem w_fX5_far_32 {σ0 : zSt} {σ : zSt} {x1 : Int32} {x2 : Int32} {s0 : Int32} (h : zKeC σ0 σ) : zpc (fX5_far_32 σ x1 x2 s0) (fun r => zKeC σ0 (r.1)) := by
  unfold fX5_far_32
  exact zpc_ck (zpc_bs (zKeC.wi h (by decide)) (fun σ1 hσ1 => zpc_if (fun _ => zpc_if (fun _ => zpc_bi (w_fX5_hl hσ1) (fun σ7 v8 hσ7 => zpc_bu (w_fX5_writeWord hσ7) (fun σ9 hσ9 => w_fX5_far_78 hσ9))) (fun _ => zpc_bi (w_fX5_readWord hσ1) (fun σ10 v11 hσ10 => zpc_bu (w_fX5_putHl hσ10) (fun σ12 hσ12 => w_fX5_far_78 hσ12)))) (fun _ => zpc_if (fun _ => zpc_ck (zpc_bu (w_fX2_write hσ1) (fun σ2 hσ2 => zpc_ck (zpc_ck (zpc_bs (zKeC.wi hσ2 (by decide)) (fun σ3 hσ3 => w_fX5_far_140 hσ3)))))) (fun _ => zpc_bi (w_fX2_read hσ1) (fun σ4 v5 hσ4 => zpc_ck (zpc_bs (zKeC.wi hσ4 (by decide)) (fun σ6 hσ6 => w_fX5_far_140 hσ6)))))))
theorem w_fX5_far_12 {σ0 : zSt} {σ : zSt} {x1 : Int32} {s0 : Int32} (h : zKeC σ0 σ) : zpc (fX5_far_12 σ x1 s0) (fun r => zKeC σ0 (r.1)) := by
  unfold fX5_far_12
  exact zpc_if (fun _ => zpc_bi (w_fX5_fetchWord h) (fun σ13 v14 hσ13 => w_fX5_far_32 hσ13)) (fun _ => zpc_bi (w_fX5_pair h) (fun σ15 v16 hσ15 => w_fX5_far_32 hσ15))
theorem w_fX5_far {σ0 : zSt} {σ : zSt} {x1 : Int32} (h : zKeC σ0 σ) : zpc (fX5_far σ x1) (fun r => zKeC σ0 (r.1)) := by
  unfold fX5_far
  exact zpc_if (fun _ => w_fX5_far_12 h) (fun _ => w_fX5_far_12 h)
theorem w_fX5_loadPair {σ0 : zSt} {σ : zSt} {x1 : Int32} (h : zKeC σ0 σ) : zpc (fX5_loadPair σ x1) (fun r => zKeC σ0 (r.1)) := by
  unfold fX5_loadPair
  exact zpc_bi (w_fX5_fetchWord h) (fun σ1 v2 hσ1 => zpc_bu (w_fX5_putPair hσ1) (fun σ3 hσ3 => zpc_some hσ3))
theorem w_fX5_addPair {σ0 : zSt} {σ : zSt} {x1 : Int32} (h : zKeC σ0 σ) : zpc (fX5_addPair σ x1) (fun r => zKeC σ0 (r.1)) := by
  unfold fX5_addPair
  exact zpc_bi (w_fX5_hl h) (fun σ1 v2 hσ1 => zpc_bi (w_fX5_pair hσ1) (fun σ3 v4 hσ3 => zpc_bv (fun v5 _ => zpc_ck (zpc_bs (zKeC.wi hσ3 (by decide)) (fun σ6 hσ6 => zpc_bu (w_fX5_putHl hσ6) (fun σ7 hσ7 => zpc_ck (zpc_ck (zpc_bs (zKeC.wi hσ7 (by decide)) (fun σ8 hσ8 => zpc_some hσ8)))))))))
theorem w_fX5_near_20 {σ0 : zSt} {σ : zSt} (h : zKeC σ0 σ) : zpc (fX5_near_20 σ) (fun r => zKeC σ0 (r.1)) := by
  unfold fX5_near_20
  exact zpc_some h
theorem w_fX5_near_133 {σ0 : zSt} {σ : zSt} {s0 : Int32} {s1 : Int32} (h : zKeC σ0 σ) : zpc (fX5_near_133 σ s0 s1) (fun r => zKeC σ0 (r.1)) := by
  unfold fX5_near_133
  exact zpc_some h
theorem w_fX5_near_123 {σ0 : zSt} {σ : zSt} {x1 : Int32} {s0 : Int32} (h : zKeC σ0 σ) : zpc (fX5_near_123 σ x1 s0) (fun r => zKeC σ0 (r.1)) := by
  unfold fX5_near_123
  exact zpc_if (fun _ => w_fX5_near_133 h) (fun _ => w_fX5_near_133 h)
theorem w_fX5_near_112 {σ0 : zSt} {σ : zSt} {x1 : Int32} {x3 : Int32} (h : zKeC σ0 σ) : zpc (fX5_near_112 σ x1 x3) (fun r => zKeC σ0 (r.1)) := by
  unfold fX5_near_112
  exact zpc_if (fun _ => w_fX5_near_123 h) (fun _ => w_fX5_near_123 h)
theorem w_fX5_near_92 {σ0 : zSt} {σ : zSt} {x1 : Int32} {x2 : Int32} {x3 : Int32} (h : zKeC σ0 σ) : zpc (fX5_near_92 σ x1 x2 x3) (fun r => zKeC σ0 (r.1)) := by
  unfold fX5_near_92
  exact zpc_if (fun _ => w_fX5_near_112 h) (fun _ => zpc_ck (zpc_bu (w_fX5_goTo h) (fun σ1 hσ1 => w_fX5_near_112 hσ1)))
theorem w_fX5_near_91 {σ0 : zSt} {σ : zSt} {x1 : Int32} {x2 : Int32} {s0 : Int32} (h : zKeC σ0 σ) : zpc (fX5_near_91 σ x1 x2 s0) (fun r => zKeC σ0 (r.1)) := by
  unfold fX5_near_91
  exact w_fX5_near_92 h
theorem w_fX5_near_53 {σ0 : zSt} {σ : zSt} {x1 : Int32} {x2 : Int32} {s0 : Int32} (h : zKeC σ0 σ) : zpc (fX5_near_53 σ x1 x2 s0) (fun r => zKeC σ0 (r.1)) := by
  unfold fX5_near_53
  exact zpc_if (fun _ => zpc_ck (zpc_ck (zpc_bs (zKeC.wi h (by decide)) (fun σ2 hσ2 => zpc_ck (zpc_if (fun _ => w_fX5_near_91 hσ2) (fun _ => w_fX5_near_91 hσ2)))))) (fun _ => w_fX5_near_92 h)
theorem w_fX5_near_48 {σ0 : zSt} {σ : zSt} {x1 : Int32} {x2 : Int32} (h : zKeC σ0 σ) : zpc (fX5_near_48 σ x1 x2) (fun r => zKeC σ0 (r.1)) := by
  unfold fX5_near_48
  exact w_fX5_near_53 h
theorem w_fX5_near_52 {σ0 : zSt} {σ : zSt} {x1 : Int32} {x2 : Int32} (h : zKeC σ0 σ) : zpc (fX5_near_52 σ x1 x2) (fun r => zKeC σ0 (r.1)) := by
  unfold fX5_near_52
  exact w_fX5_near_53 h
theorem w_fX5_near {σ0 : zSt} {σ : zSt} {x1 : Int32} (h : zKeC σ0 σ) : zpc (fX5_near σ x1) (fun r => zKeC σ0 (r.1)) := by
  unfold fX5_near
  exact zpc_if (fun _ => zpc_bi (w_fX5_fetch h) (fun σ3 v4 hσ3 => zpc_bv (fun v5 _ => zpc_if (fun _ => w_fX5_near_48 hσ3) (fun _ => zpc_if (fun _ => w_fX5_near_52 hσ3) (fun _ => zpc_bi (w_fX5_holds hσ3) (fun σ6 v7 hσ6 => zpc_if (fun _ => w_fX5_near_52 hσ6) (fun _ => w_fX5_near_48 hσ6))))))) (fun _ => zpc_if (fun _ => zpc_bu (w_fX5_changeWithOther h) (fun σ8 hσ8 => zpc_bu (w_fX5_changeWithOther hσ8) (fun σ9 hσ9 => w_fX5_near_20 hσ9))) (fun _ => w_fX5_near_20 h))
theorem w_fX5_firstQuarter_193 {σ0 : zSt} {σ : zSt} {s0 : Int32} (h : zKeC σ0 σ) : zpc (fX5_firstQuarter_193 σ s0) (fun r => zKeC σ0 (r.1)) := by
  unfold fX5_firstQuarter_193
  exact zpc_some h
theorem w_fX5_firstQuarter_170 {σ0 : zSt} {σ : zSt} {s0 : Int32} (h : zKeC σ0 σ) : zpc (fX5_firstQuarter_170 σ s0) (fun r => zKeC σ0 (r.1)) := by
  unfold fX5_firstQuarter_170
  exact zpc_some h
theorem w_fX5_firstQuarter_143 {σ0 : zSt} {σ : zSt} {s0 : Int32} (h : zKeC σ0 σ) : zpc (fX5_firstQuarter_143 σ s0) (fun r => zKeC σ0 (r.1)) := by
  unfold fX5_firstQuarter_143
  exact zpc_some h
theorem w_fX5_firstQuarter_110 {σ0 : zSt} {σ : zSt} {s0 : Int32} {s1 : Int32} {s2 : Int32} (h : zKeC σ0 σ) : zpc (fX5_firstQuarter_110 σ s0 s1 s2) (fun r => zKeC σ0 (r.1)) := by
  unfold fX5_firstQuarter_110
  exact zpc_bu (w_fX5_putPair h) (fun σ1 hσ1 => zpc_some hσ1)
theorem w_fX5_firstQuarter_81 {σ0 : zSt} {σ : zSt} {s0 : Int32} (h : zKeC σ0 σ) : zpc (fX5_firstQuarter_81 σ s0) (fun r => zKeC σ0 (r.1)) := by
  unfold fX5_firstQuarter_81
  exact zpc_some h
theorem w_fX5_firstQuarter {σ0 : zSt} {σ : zSt} {x1 : Int32} (h : zKeC σ0 σ) : zpc (fX5_firstQuarter σ x1) (fun r => zKeC σ0 (r.1)) := by
  unfold fX5_firstQuarter
  exact zpc_bv (fun v2 _ => zpc_if (fun _ => zpc_bi (w_fX5_near h) (fun σ3 v4 hσ3 => zpc_some hσ3)) (fun _ => zpc_if (fun _ => zpc_if (fun _ => zpc_bi (w_fX5_loadPair h) (fun σ7 v8 hσ7 => w_fX5_firstQuarter_81 hσ7)) (fun _ => zpc_bi (w_fX5_addPair h) (fun σ5 v6 hσ5 => w_fX5_firstQuarter_81 hσ5))) (fun _ => zpc_if (fun _ => zpc_bi (w_fX5_far h) (fun σ9 v10 hσ9 => zpc_some hσ9)) (fun _ => zpc_if (fun _ => zpc_bi (w_fX5_pair h) (fun σ11 v12 hσ11 => zpc_if (fun _ => w_fX5_firstQuarter_110 hσ11) (fun _ => w_fX5_firstQuarter_110 hσ11))) (fun _ => zpc_if (fun _ => zpc_bi (w_fX5_one h) (fun σ13 v14 hσ13 => zpc_bi (w_fX5_oneMore hσ13) (fun σ15 v16 hσ15 => zpc_bu (w_fX5_putOne hσ15) (fun σ17 hσ17 => zpc_if (fun _ => w_fX5_firstQuarter_143 hσ17) (fun _ => w_fX5_firstQuarter_143 hσ17))))) (fun _ => zpc_if (fun _ => zpc_bi (w_fX5_one h) (fun σ18 v19 hσ18 => zpc_bi (w_fX5_oneLess hσ18) (fun σ20 v21 hσ20 => zpc_bu (w_fX5_putOne hσ20) (fun σ22 hσ22 => zpc_if (fun _ => w_fX5_firstQuarter_170 hσ22) (fun _ => w_fX5_firstQuarter_170 hσ22))))) (fun _ => zpc_if (fun _ => zpc_bi (w_fX5_fetch h) (fun σ23 v24 hσ23 => zpc_bu (w_fX5_putOne hσ23) (fun σ25 hσ25 => zpc_if (fun _ => w_fX5_firstQuarter_193 hσ25) (fun _ => w_fX5_firstQuarter_193 hσ25)))) (fun _ => zpc_bu (w_fX5_changeA h) (fun σ26 hσ26 => zpc_some hσ26)))))))))
theorem w_fX5_carryOn_90 {σ0 : zSt} {σ : zSt} (h : zKeC σ0 σ) : zpc (fX5_carryOn_90 σ) (fun r => zKeC σ0 (r.1)) := by
  unfold fX5_carryOn_90
  exact zpc_ck (zpc_bs (zKeC.wi h (by decide)) (fun σ1 hσ1 => zpc_some hσ1))
theorem w_fX5_carryOn_193 {σ0 : zSt} {σ : zSt} {s0 : Int32} (h : zKeC σ0 σ) : zpc (fX5_carryOn_193 σ s0) (fun r => zKeC σ0 (r.1)) := by
  unfold fX5_carryOn_193
  exact zpc_some h
theorem w_fX5_carryOn_275 {σ0 : zSt} {σ : zSt} {s0 : Int32} {s1 : Int32} (h : zKeC σ0 σ) : zpc (fX5_carryOn_275 σ s0 s1) (fun r => zKeC σ0 (r.1)) := by
  unfold fX5_carryOn_275
  exact zpc_some h
theorem w_fX5_carryOn_141 {σ0 : zSt} {σ : zSt} {x1 : Int32} {x2 : Int32} (h : zKeC σ0 σ) : zpc (fX5_carryOn_141 σ x1 x2) (fun r => zKeC σ0 (r.1)) := by
  unfold fX5_carryOn_141
  exact zpc_if (fun _ => zpc_bi (w_fX5_fetchOp h) (fun σ18 v19 hσ18 => zpc_bi (w_fX5_turns hσ18) (fun σ20 v21 hσ20 => zpc_some hσ20))) (fun _ => zpc_if (fun _ => zpc_bi (w_fX5_fetchOp h) (fun σ12 v13 hσ12 => zpc_if (fun _ => zpc_bi (w_fX5_block hσ12) (fun σ16 v17 hσ16 => w_fX5_carryOn_193 hσ16)) (fun _ => zpc_bi (w_fX5_behindEd hσ12) (fun σ14 v15 hσ14 => w_fX5_carryOn_193 hσ14)))) (fun _ => zpc_if (fun _ => zpc_bi (w_fX5_firstQuarter h) (fun σ2 v3 hσ2 => zpc_some hσ2)) (fun _ => zpc_if (fun _ => zpc_bi (w_fX5_move h) (fun σ4 v5 hσ4 => zpc_some hσ4)) (fun _ => zpc_if (fun _ => zpc_bi (w_fX5_doWithRegister h) (fun σ6 v7 hσ6 => zpc_some hσ6)) (fun _ => zpc_if (fun _ => zpc_bi (w_fX5_exchange h) (fun σ10 v11 hσ10 => w_fX5_carryOn_275 hσ10)) (fun _ => zpc_bi (w_fX5_lastQuarter h) (fun σ8 v9 hσ8 => w_fX5_carryOn_275 hσ8)))))))
theorem w_fX5_carryOn_115 {σ0 : zSt} {σ : zSt} {s0 : Int32} (h : zKeC σ0 σ) : zpc (fX5_carryOn_115 σ s0) (fun r => zKeC σ0 (r.1)) := by
  unfold fX5_carryOn_115
  exact zpc_bs (zKeC.wi h (by decide)) (fun σ22 hσ22 => zpc_bi (w_fX5_fetchOp hσ22) (fun σ23 v24 hσ23 => zpc_if (fun _ => zpc_bi (w_fX5_turnBeside hσ23) (fun σ27 v28 hσ27 => zpc_some hσ27)) (fun _ => zpc_bi (w_fX5_takePlace hσ23) (fun σ25 v26 hσ25 => w_fX5_carryOn_141 hσ25))))
theorem w_fX5_carryOn_54 {σ0 : zSt} {σ : zSt} {x1 : Int32} (h : zKeC σ0 σ) : zpc (fX5_carryOn_54 σ x1) (fun r => zKeC σ0 (r.1)) := by
  unfold fX5_carryOn_54
  exact zpc_ck (zpc_bi (w_fX2_read h) (fun σ29 v30 hσ29 => zpc_if (fun _ => w_fX5_carryOn_90 hσ29) (fun _ => zpc_if (fun _ => w_fX5_carryOn_90 hσ29) (fun _ => zpc_if (fun _ => w_fX5_carryOn_90 hσ29) (fun _ => zpc_if (fun _ => w_fX5_carryOn_115 hσ29) (fun _ => w_fX5_carryOn_115 hσ29))))))
theorem w_fX5_carryOn {σ0 : zSt} {σ : zSt} (h : zKeC σ0 σ) : zpc (fX5_carryOn σ) (fun r => zKeC σ0 (r.1)) := by
  unfold fX5_carryOn
  exact zpc_ck (zpc_if (fun _ => zpc_bu (w_fX5_growR h) (fun σ37 hσ37 => zpc_some hσ37)) (fun _ => zpc_bs (zKeC.wi h (by decide)) (fun σ31 hσ31 => zpc_bi (w_fX5_pairAt hσ31) (fun σ32 v33 hσ32 => zpc_bs (zKeC.wi hσ32 (by decide)) (fun σ34 hσ34 => zpc_bi (w_fX5_fetchOp hσ34) (fun σ35 v36 hσ35 => zpc_if (fun _ => w_fX5_carryOn_54 hσ35) (fun _ => zpc_if (fun _ => w_fX5_carryOn_54 hσ35) (fun _ => w_fX5_carryOn_141 hσ35))))))))
theorem w_fX6_size_k11 {σ0 : zSt} {σ : zSt} (h : zKeC σ0 σ) : zpc (fX6_size_k11 σ) (fun r => zKeC σ0 (r.1)) := by
  unfold fX6_size_k11
  exact zpc_some h
theorem w_fX6_size_k12 {σ0 : zSt} {σ : zSt} (h : zKeC σ0 σ) : zpc (fX6_size_k12 σ) (fun r => zKeC σ0 (r.1)) := by
  unfold fX6_size_k12
  exact zpc_some h
theorem w_fX6_takeFirst_k11 {σ0 : zSt} {σ : zSt} (h : zKeC σ0 σ) : zpc (fX6_takeFirst_k11 σ) (fun r => zKeC σ0 (r.1)) := by
  unfold fX6_takeFirst_k11
  exact zpc_if (fun _ => zpc_some h) (fun _ => zpc_ck (zpc_bv (fun v1 _ => zpc_bs (zKeC.wi h (by decide)) (fun σ2 hσ2 => zpc_bs (zKeC.wi hσ2 (by decide)) (fun σ3 hσ3 => zpc_some hσ3)))))
theorem w_fX6_takeFirst_k12 {σ0 : zSt} {σ : zSt} (h : zKeC σ0 σ) : zpc (fX6_takeFirst_k12 σ) (fun r => zKeC σ0 (r.1)) := by
  unfold fX6_takeFirst_k12
  exact zpc_if (fun _ => zpc_some h) (fun _ => zpc_ck (zpc_bv (fun v1 _ => zpc_bs (zKeC.wi h (by decide)) (fun σ2 hσ2 => zpc_bs (zKeC.wi hσ2 (by decide)) (fun σ3 hσ3 => zpc_some hσ3)))))
theorem w_fJ7_fill_53178_k30_5_body {σ0 : zSt} {k5 : zSt → Int32 → Int32 → Int32 → Option (zSt)} (hk5 : ∀ (y0 : zSt) (y1 : Int32) (y2 : Int32) (y3 : Int32), zKeC σ0 y0 → zpc (k5 y0 y1 y2 y3) (fun r => zKeC σ0 (r))) {σ : zSt} {x1 : Int32} {x2 : Int32} {x3 : Int32} (h : zKeC σ0 σ) : zpc (fJ7_fill_53178_k30_5_body k5 σ x1 x2 x3) (fun r => zKeC σ0 (r)) := by
  unfold fJ7_fill_53178_k30_5_body
  exact zpc_if (fun _ => zpc_some h) (fun _ => zpc_ck (zpc_bs (zKeC.wi h (by decide)) (fun σ1 hσ1 => zpc_bv (fun v2 _ => hk5 _ _ _ _ hσ1))))
theorem w_fJ7_fill_53178_k30_5 {σ0 : zSt} : ∀ (n : Nat) (y0 : zSt) (y1 : Int32) (y2 : Int32) (y3 : Int32), zKeC σ0 y0 → zpc (fJ7_fill_53178_k30_5 n y0 y1 y2 y3) (fun r => zKeC σ0 (r)) := by
  intro n
  induction n with
  | zero => intro y0 y1 y2 y3 h; exact zpc_none
  | succ n ih => intro y0 y1 y2 y3 h; exact w_fJ7_fill_53178_k30_5_body ih h
theorem w_fJ7_fill_53178_k30 {σ0 : zSt} {σ : zSt} {x1 : Int32} (h : zKeC σ0 σ) : zpc (fJ7_fill_53178_k30 σ x1) (fun r => zKeC σ0 (r)) := by
  unfold fJ7_fill_53178_k30
  exact w_fJ7_fill_53178_k30_5 _ _ _ _ _ h
theorem w_fJ7_fill_fda19_k30_10_body {σ0 : zSt} {k10 : zSt → Int32 → Int32 → Int32 → Option (zSt)} (hk10 : ∀ (y0 : zSt) (y1 : Int32) (y2 : Int32) (y3 : Int32), zKeC σ0 y0 → zpc (k10 y0 y1 y2 y3) (fun r => zKeC σ0 (r))) {σ : zSt} {x2 : Int32} {x3 : Int32} {x4 : Int32} (h : zKeC σ0 σ) : zpc (fJ7_fill_fda19_k30_10_body k10 σ x2 x3 x4) (fun r => zKeC σ0 (r)) := by
  unfold fJ7_fill_fda19_k30_10_body
  exact zpc_if (fun _ => zpc_some h) (fun _ => zpc_ck (zpc_bs (zKeC.wi h (by decide)) (fun σ1 hσ1 => zpc_bv (fun v2 _ => hk10 _ _ _ _ hσ1))))
theorem w_fJ7_fill_fda19_k30_10 {σ0 : zSt} : ∀ (n : Nat) (y0 : zSt) (y1 : Int32) (y2 : Int32) (y3 : Int32), zKeC σ0 y0 → zpc (fJ7_fill_fda19_k30_10 n y0 y1 y2 y3) (fun r => zKeC σ0 (r)) := by
  intro n
  induction n with
  | zero => intro y0 y1 y2 y3 h; exact zpc_none
  | succ n ih => intro y0 y1 y2 y3 h; exact w_fJ7_fill_fda19_k30_10_body ih h
theorem w_fJ7_fill_fda19_k30 {σ0 : zSt} {σ : zSt} {x1 : Int32} {x2 : Int32} {x3 : Int32} (h : zKeC σ0 σ) : zpc (fJ7_fill_fda19_k30 σ x1 x2 x3) (fun r => zKeC σ0 (r)) := by
  unfold fJ7_fill_fda19_k30
  exact zpc_bu (w_fJ7_rangeCheck_23922 h) (fun σ3 hσ3 => w_fJ7_fill_fda19_k30_10 _ _ _ _ _ hσ3)
theorem w_fX7_clear {σ0 : zSt} {σ : zSt} (h : zKeC σ0 σ) : zpc (fX7_clear σ) (fun r => zKeC σ0 (r)) := by
  unfold fX7_clear
  exact zpc_bu (w_fJ7_fill_53178_k30 h) (fun σ1 hσ1 => zpc_bu (w_fJ7_fill_fda19_k30 hσ1) (fun σ2 hσ2 => zpc_ck (zpc_bs (zKeC.wi hσ2 (by decide)) (fun σ3 hσ3 => zpc_ck (zpc_bs (zKeC.wi hσ3 (by decide)) (fun σ4 hσ4 => zpc_some hσ4))))))
theorem w_fX7_keep {σ0 : zSt} {σ : zSt} (h : zKeC σ0 σ) : zpc (fX7_keep σ) (fun r => zKeC σ0 (r)) := by
  unfold fX7_keep
  exact zpc_ck (zpc_bs (zKeC.ci h (by decide)) (fun σ1 hσ1 => zpc_some hσ1))
theorem w_fX7_bringBack {σ0 : zSt} {σ : zSt} (h : zKeC σ0 σ) : zpc (fX7_bringBack σ) (fun r => zKeC σ0 (r)) := by
  unfold fX7_bringBack
  exact zpc_ck (zpc_bs (zKeC.ci h (by decide)) (fun σ1 hσ1 => zpc_some hσ1))
theorem w_fX7_value_20 {σ0 : zSt} {σ : zSt} {s0 : Int32} (h : zKeC σ0 σ) : zpc (fX7_value_20 σ s0) (fun r => zKeC σ0 (r.1)) := by
  unfold fX7_value_20
  exact zpc_some h
theorem w_fX7_value_19 {σ0 : zSt} {σ : zSt} (h : zKeC σ0 σ) : zpc (fX7_value_19 σ) (fun r => zKeC σ0 (r.1)) := by
  unfold fX7_value_19
  exact w_fX7_value_20 h
theorem w_fX7_value {σ0 : zSt} {σ : zSt} {x1 : Int32} (h : zKeC σ0 σ) : zpc (fX7_value σ x1) (fun r => zKeC σ0 (r.1)) := by
  unfold fX7_value
  exact zpc_if (fun _ => w_fX7_value_19 h) (fun _ => zpc_if (fun _ => w_fX7_value_19 h) (fun _ => zpc_ck (w_fX7_value_20 h)))
theorem w_fX8_take {σ0 : zSt} {σ : zSt} (h : zKeC σ0 σ) : zpc (fX8_take σ) (fun r => zKeC σ0 (r.1)) := by
  unfold fX8_take
  exact zpc_bi (w_fX2_read h) (fun σ1 v2 hσ1 => zpc_bs (zKeC.wi hσ1 (by decide)) (fun σ3 hσ3 => zpc_some hσ3))
theorem w_fX8_putSign_29 {σ0 : zSt} {σ : zSt} (h : zKeC σ0 σ) : zpc (fX8_putSign_29 σ) (fun r => zKeC σ0 (r)) := by
  unfold fX8_putSign_29
  exact zpc_some h
theorem w_fX8_putSign {σ0 : zSt} {σ : zSt} {x1 : Int32} (h : zKeC σ0 σ) : zpc (fX8_putSign σ x1) (fun r => zKeC σ0 (r)) := by
  unfold fX8_putSign
  exact zpc_if (fun _ => w_fX8_putSign_29 h) (fun _ => zpc_ck (zpc_bs (zKeC.wi h (by decide)) (fun σ1 hσ1 => zpc_bs (zKeC.wi hσ1 (by decide)) (fun σ2 hσ2 => w_fX8_putSign_29 hσ2))))
theorem w_fX8_putByte {σ0 : zSt} {σ : zSt} {x1 : Int32} (h : zKeC σ0 σ) : zpc (fX8_putByte σ x1) (fun r => zKeC σ0 (r)) := by
  unfold fX8_putByte
  exact zpc_ck (zpc_ck (zpc_bu (w_fX8_putSign h) (fun σ1 hσ1 => zpc_ck (zpc_ck (zpc_bu (w_fX8_putSign hσ1) (fun σ2 hσ2 => zpc_some hσ2))))))
theorem w_fX8_putWord {σ0 : zSt} {σ : zSt} {x1 : Int32} (h : zKeC σ0 σ) : zpc (fX8_putWord σ x1) (fun r => zKeC σ0 (r)) := by
  unfold fX8_putWord
  exact zpc_bu (w_fX8_putByte h) (fun σ1 hσ1 => zpc_bu (w_fX8_putByte hσ1) (fun σ2 hσ2 => zpc_some hσ2))
theorem w_fX8_putHl_35 {σ0 : zSt} {σ : zSt} {s0 : Int32} (h : zKeC σ0 σ) : zpc (fX8_putHl_35 σ s0) (fun r => zKeC σ0 (r)) := by
  unfold fX8_putHl_35
  exact zpc_bu (w_fX8_putSign h) (fun σ1 hσ1 => zpc_some hσ1)
theorem w_fX8_putHl_15 {σ0 : zSt} {σ : zSt} {s0 : Int32} (h : zKeC σ0 σ) : zpc (fX8_putHl_15 σ s0) (fun r => zKeC σ0 (r)) := by
  unfold fX8_putHl_15
  exact zpc_bu (w_fX8_putSign h) (fun σ2 hσ2 => zpc_if (fun _ => w_fX8_putHl_35 hσ2) (fun _ => w_fX8_putHl_35 hσ2))
theorem w_fX8_putHl {σ0 : zSt} {σ : zSt} (h : zKeC σ0 σ) : zpc (fX8_putHl σ) (fun r => zKeC σ0 (r)) := by
  unfold fX8_putHl
  exact zpc_if (fun _ => w_fX8_putHl_15 h) (fun _ => w_fX8_putHl_15 h)
theorem w_fX8_putPlace_45 {σ0 : zSt} {σ : zSt} {s0 : Int32} (h : zKeC σ0 σ) : zpc (fX8_putPlace_45 σ s0) (fun r => zKeC σ0 (r)) := by
  unfold fX8_putPlace_45
  exact zpc_bu (w_fX8_putByte h) (fun σ1 hσ1 => zpc_bu (w_fX8_putSign hσ1) (fun σ2 hσ2 => zpc_some hσ2))
theorem w_fX8_putPlace_25 {σ0 : zSt} {σ : zSt} {x1 : Int32} {s0 : Int32} (h : zKeC σ0 σ) : zpc (fX8_putPlace_25 σ x1 s0) (fun r => zKeC σ0 (r)) := by
  unfold fX8_putPlace_25
  exact zpc_bu (w_fX8_putSign h) (fun σ3 hσ3 => zpc_if (fun _ => w_fX8_putPlace_45 hσ3) (fun _ => w_fX8_putPlace_45 hσ3))
theorem w_fX8_putPlace {σ0 : zSt} {σ : zSt} {x1 : Int32} (h : zKeC σ0 σ) : zpc (fX8_putPlace σ x1) (fun r => zKeC σ0 (r)) := by
  unfold fX8_putPlace
  exact zpc_bu (w_fX8_putSign h) (fun σ4 hσ4 => zpc_bu (w_fX8_putHl hσ4) (fun σ5 hσ5 => zpc_if (fun _ => w_fX8_putPlace_25 hσ5) (fun _ => w_fX8_putPlace_25 hσ5)))
theorem w_fX8_putName_46 {σ0 : zSt} {k5 : zSt → Nat → Int32 → Int32 → Int32 → Option (zSt)} (hk5 : ∀ (y0 : zSt) (y1 : Nat) (y2 : Int32) (y3 : Int32) (y4 : Int32), zKeC σ0 y0 → zpc (k5 y0 y1 y2 y3 y4) (fun r => zKeC σ0 (r))) {σ : zSt} {n1 : Nat} {x2 : Int32} {x3 : Int32} {x4 : Int32} (h : zKeC σ0 σ) : zpc (fX8_putName_46 k5 σ n1 x2 x3 x4) (fun r => zKeC σ0 (r)) := by
  unfold fX8_putName_46
  exact zpc_bv (fun v1 _ => hk5 _ _ _ _ _ h)
theorem w_fX8_putName_5_body {σ0 : zSt} {k5 : zSt → Nat → Int32 → Int32 → Int32 → Option (zSt)} (hk5 : ∀ (y0 : zSt) (y1 : Nat) (y2 : Int32) (y3 : Int32) (y4 : Int32), zKeC σ0 y0 → zpc (k5 y0 y1 y2 y3 y4) (fun r => zKeC σ0 (r))) {σ : zSt} {n1 : Nat} {x2 : Int32} {x3 : Int32} {x4 : Int32} (h : zKeC σ0 σ) : zpc (fX8_putName_5_body k5 σ n1 x2 x3 x4) (fun r => zKeC σ0 (r)) := by
  unfold fX8_putName_5_body
  exact zpc_ck (zpc_if (fun _ => zpc_some h) (fun _ => zpc_ck (zpc_ck (zpc_if (fun _ => zpc_bv (fun v3 _ => w_fX8_putName_46 hk5 h)) (fun _ => zpc_if (fun _ => zpc_ck (zpc_ck (zpc_bu (w_fX8_putSign h) (fun σ2 hσ2 => w_fX8_putName_46 hk5 hσ2)))) (fun _ => w_fX8_putName_46 hk5 h))))))
theorem w_fX8_putName_5 {σ0 : zSt} : ∀ (n : Nat) (y0 : zSt) (y1 : Nat) (y2 : Int32) (y3 : Int32) (y4 : Int32), zKeC σ0 y0 → zpc (fX8_putName_5 n y0 y1 y2 y3 y4) (fun r => zKeC σ0 (r)) := by
  intro n
  induction n with
  | zero => intro y0 y1 y2 y3 y4 h; exact zpc_none
  | succ n ih => intro y0 y1 y2 y3 y4 h; exact w_fX8_putName_5_body ih h
theorem w_fX8_putName {σ0 : zSt} {σ : zSt} {n1 : Nat} {x2 : Int32} (h : zKeC σ0 σ) : zpc (fX8_putName σ n1 x2) (fun r => zKeC σ0 (r)) := by
  unfold fX8_putName
  exact w_fX8_putName_5 _ _ _ _ _ _ h
theorem w_fX8_putOne_78 {σ0 : zSt} {σ : zSt} (h : zKeC σ0 σ) : zpc (fX8_putOne_78 σ) (fun r => zKeC σ0 (r)) := by
  unfold fX8_putOne_78
  exact zpc_some h
theorem w_fX8_putOne_71 {σ0 : zSt} {σ : zSt} {x1 : Int32} (h : zKeC σ0 σ) : zpc (fX8_putOne_71 σ x1) (fun r => zKeC σ0 (r)) := by
  unfold fX8_putOne_71
  exact zpc_bu (w_fX8_putName h) (fun σ1 hσ1 => w_fX8_putOne_78 hσ1)
theorem w_fX8_putOne_65 {σ0 : zSt} {σ : zSt} {s0 : Int32} (h : zKeC σ0 σ) : zpc (fX8_putOne_65 σ s0) (fun r => zKeC σ0 (r)) := by
  unfold fX8_putOne_65
  exact zpc_bu (w_fX8_putSign h) (fun σ2 hσ2 => w_fX8_putOne_78 hσ2)
theorem w_fX8_putOne_34 {σ0 : zSt} {σ : zSt} {x1 : Int32} (h : zKeC σ0 σ) : zpc (fX8_putOne_34 σ x1) (fun r => zKeC σ0 (r)) := by
  unfold fX8_putOne_34
  exact zpc_if (fun _ => w_fX8_putOne_71 h) (fun _ => zpc_if (fun _ => zpc_bu (w_fX8_putHl h) (fun σ3 hσ3 => zpc_if (fun _ => w_fX8_putOne_65 hσ3) (fun _ => w_fX8_putOne_65 hσ3))) (fun _ => w_fX8_putOne_71 h))
theorem w_fX8_putOne_24 {σ0 : zSt} {σ : zSt} {x1 : Int32} (h : zKeC σ0 σ) : zpc (fX8_putOne_24 σ x1) (fun r => zKeC σ0 (r)) := by
  unfold fX8_putOne_24
  exact zpc_if (fun _ => w_fX8_putOne_34 h) (fun _ => zpc_if (fun _ => w_fX8_putOne_34 h) (fun _ => w_fX8_putOne_71 h))
theorem w_fX8_putOne {σ0 : zSt} {σ : zSt} {x1 : Int32} (h : zKeC σ0 σ) : zpc (fX8_putOne σ x1) (fun r => zKeC σ0 (r)) := by
  unfold fX8_putOne
  exact zpc_if (fun _ => zpc_if (fun _ => w_fX8_putOne_24 h) (fun _ => zpc_bi (w_fX8_take h) (fun σ4 v5 hσ4 => zpc_bu (w_fX8_putPlace hσ4) (fun σ6 hσ6 => w_fX8_putOne_78 hσ6)))) (fun _ => w_fX8_putOne_24 h)
theorem w_fX8_putTurned_59 {σ0 : zSt} {σ : zSt} (h : zKeC σ0 σ) : zpc (fX8_putTurned_59 σ) (fun r => zKeC σ0 (r)) := by
  unfold fX8_putTurned_59
  exact zpc_some h
theorem w_fX8_putTurned {σ0 : zSt} {σ : zSt} (h : zKeC σ0 σ) : zpc (fX8_putTurned σ) (fun r => zKeC σ0 (r)) := by
  unfold fX8_putTurned
  exact zpc_if (fun _ => zpc_bu (w_fX8_putName h) (fun σ4 hσ4 => zpc_some hσ4)) (fun _ => zpc_bu (w_fX8_putPlace h) (fun σ1 hσ1 => zpc_if (fun _ => w_fX8_putTurned_59 hσ1) (fun _ => zpc_if (fun _ => w_fX8_putTurned_59 hσ1) (fun _ => zpc_bu (w_fX8_putSign hσ1) (fun σ2 hσ2 => zpc_bu (w_fX8_putName hσ2) (fun σ3 hσ3 => w_fX8_putTurned_59 hσ3))))))
theorem w_fX8_putPair_28 {σ0 : zSt} {σ : zSt} (h : zKeC σ0 σ) : zpc (fX8_putPair_28 σ) (fun r => zKeC σ0 (r)) := by
  unfold fX8_putPair_28
  exact zpc_some h
theorem w_fX8_putPair {σ0 : zSt} {σ : zSt} {n1 : Nat} (h : zKeC σ0 σ) : zpc (fX8_putPair σ n1) (fun r => zKeC σ0 (r)) := by
  unfold fX8_putPair
  exact zpc_if (fun _ => zpc_bu (w_fX8_putHl h) (fun σ2 hσ2 => w_fX8_putPair_28 hσ2)) (fun _ => zpc_bu (w_fX8_putName h) (fun σ1 hσ1 => w_fX8_putPair_28 hσ1))
theorem w_fX8_putMeant_275 {σ0 : zSt} {σ : zSt} (h : zKeC σ0 σ) : zpc (fX8_putMeant_275 σ) (fun r => zKeC σ0 (r)) := by
  unfold fX8_putMeant_275
  exact zpc_some h
theorem w_fX8_putMeant_256 {σ0 : zSt} {σ : zSt} (h : zKeC σ0 σ) : zpc (fX8_putMeant_256 σ) (fun r => zKeC σ0 (r)) := by
  unfold fX8_putMeant_256
  exact zpc_bi (w_fX8_take h) (fun σ1 v2 hσ1 => zpc_bu (w_fX8_putWord hσ1) (fun σ3 hσ3 => w_fX8_putMeant_275 hσ3))
theorem w_fX8_putMeant {σ0 : zSt} {σ : zSt} {x1 : Int32} (h : zKeC σ0 σ) : zpc (fX8_putMeant σ x1) (fun r => zKeC σ0 (r)) := by
  unfold fX8_putMeant
  exact zpc_if (fun _ => zpc_bu (w_fX8_putSign h) (fun σ4 hσ4 => w_fX8_putMeant_275 hσ4)) (fun _ => zpc_if (fun _ => zpc_bu (w_fX8_putName h) (fun σ5 hσ5 => w_fX8_putMeant_275 hσ5)) (fun _ => zpc_if (fun _ => zpc_bu (w_fX8_putName h) (fun σ6 hσ6 => w_fX8_putMeant_275 hσ6)) (fun _ => zpc_if (fun _ => w_fX8_putMeant_256 h) (fun _ => zpc_if (fun _ => w_fX8_putMeant_256 h) (fun _ => zpc_if (fun _ => w_fX8_putMeant_256 h) (fun _ => zpc_if (fun _ => w_fX8_putMeant_256 h) (fun _ => zpc_if (fun _ => w_fX8_putMeant_256 h) (fun _ => zpc_if (fun _ => zpc_bu (w_fX8_putHl h) (fun σ7 hσ7 => w_fX8_putMeant_275 hσ7)) (fun _ => zpc_if (fun _ => w_fX8_putMeant_256 h) (fun _ => zpc_if (fun _ => w_fX8_putMeant_256 h) (fun _ => zpc_if (fun _ => w_fX8_putMeant_256 h) (fun _ => zpc_if (fun _ => zpc_bi (w_fX8_take h) (fun σ8 v9 hσ8 => zpc_bu (w_fX8_putByte hσ8) (fun σ10 hσ10 => w_fX8_putMeant_275 hσ10))) (fun _ => zpc_if (fun _ => w_fX8_putMeant_256 h) (fun _ => zpc_if (fun _ => zpc_bu (w_fX8_putPair h) (fun σ11 hσ11 => w_fX8_putMeant_275 hσ11)) (fun _ => zpc_if (fun _ => zpc_bu (w_fX8_putPair h) (fun σ12 hσ12 => w_fX8_putMeant_275 hσ12)) (fun _ => zpc_if (fun _ => w_fX8_putMeant_256 h) (fun _ => zpc_if (fun _ => w_fX8_putMeant_256 h) (fun _ => zpc_if (fun _ => zpc_bu (w_fX8_putTurned h) (fun σ13 hσ13 => w_fX8_putMeant_275 hσ13)) (fun _ => zpc_if (fun _ => w_fX8_putMeant_256 h) (fun _ => zpc_if (fun _ => zpc_bu (w_fX8_putByte h) (fun σ14 hσ14 => w_fX8_putMeant_275 hσ14)) (fun _ => zpc_if (fun _ => zpc_bi (w_fX8_take h) (fun σ15 v16 hσ15 => zpc_bi (w_fX8_take hσ15) (fun σ17 v18 hσ17 => zpc_bu (w_fX8_putWord hσ17) (fun σ19 hσ19 => w_fX8_putMeant_275 hσ19)))) (fun _ => zpc_if (fun _ => w_fX8_putMeant_256 h) (fun _ => zpc_if (fun _ => zpc_bu (w_fX8_putOne h) (fun σ20 hσ20 => w_fX8_putMeant_275 hσ20)) (fun _ => zpc_if (fun _ => zpc_bu (w_fX8_putOne h) (fun σ21 hσ21 => w_fX8_putMeant_275 hσ21)) (fun _ => w_fX8_putMeant_256 h)))))))))))))))))))))))))
theorem w_fX8_put_28 {σ0 : zSt} {k4 : zSt → Nat → Int32 → Int32 → Option (zSt)} (hk4 : ∀ (y0 : zSt) (y1 : Nat) (y2 : Int32) (y3 : Int32), zKeC σ0 y0 → zpc (k4 y0 y1 y2 y3) (fun r => zKeC σ0 (r))) {σ : zSt} {n1 : Nat} {x3 : Int32} {s0 : Int32} {s1 : Int32} (h : zKeC σ0 σ) : zpc (fX8_put_28 k4 σ n1 x3 s0 s1) (fun r => zKeC σ0 (r)) := by
  unfold fX8_put_28
  exact zpc_bv (fun v1 _ => zpc_bv (fun v2 _ => hk4 _ _ _ _ h))
theorem w_fX8_put_110 {σ0 : zSt} {k41 : zSt → Nat → Int32 → Int32 → Int32 → Option (zSt)} (hk41 : ∀ (y0 : zSt) (y1 : Nat) (y2 : Int32) (y3 : Int32) (y4 : Int32), zKeC σ0 y0 → zpc (k41 y0 y1 y2 y3 y4) (fun r => zKeC σ0 (r))) {σ : zSt} {n1 : Nat} {x2 : Int32} {x3 : Int32} {x4 : Int32} (h : zKeC σ0 σ) : zpc (fX8_put_110 k41 σ n1 x2 x3 x4) (fun r => zKeC σ0 (r)) := by
  unfold fX8_put_110
  exact zpc_bv (fun v3 _ => hk41 _ _ _ _ _ h)
theorem w_fX8_put_104 {σ0 : zSt} {k41 : zSt → Nat → Int32 → Int32 → Int32 → Option (zSt)} (hk41 : ∀ (y0 : zSt) (y1 : Nat) (y2 : Int32) (y3 : Int32) (y4 : Int32), zKeC σ0 y0 → zpc (k41 y0 y1 y2 y3 y4) (fun r => zKeC σ0 (r))) {σ : zSt} {n1 : Nat} {x2 : Int32} {x3 : Int32} {x4 : Int32} {x5 : Int32} (h : zKeC σ0 σ) : zpc (fX8_put_104 k41 σ n1 x2 x3 x4 x5) (fun r => zKeC σ0 (r)) := by
  unfold fX8_put_104
  exact zpc_bu (w_fX8_putSign h) (fun σ4 hσ4 => w_fX8_put_110 hk41 hσ4)
theorem w_fX8_put_41_body {σ0 : zSt} {k41 : zSt → Nat → Int32 → Int32 → Int32 → Option (zSt)} (hk41 : ∀ (y0 : zSt) (y1 : Nat) (y2 : Int32) (y3 : Int32) (y4 : Int32), zKeC σ0 y0 → zpc (k41 y0 y1 y2 y3 y4) (fun r => zKeC σ0 (r))) {σ : zSt} {n1 : Nat} {x2 : Int32} {x3 : Int32} {x4 : Int32} (h : zKeC σ0 σ) : zpc (fX8_put_41_body k41 σ n1 x2 x3 x4) (fun r => zKeC σ0 (r)) := by
  unfold fX8_put_41_body
  exact zpc_ck (zpc_if (fun _ => zpc_some h) (fun _ => zpc_ck (zpc_ck (zpc_bv (fun v5 _ => zpc_if (fun _ => zpc_bv (fun v7 _ => w_fX8_put_110 hk41 h)) (fun _ => zpc_ck (zpc_if (fun _ => zpc_if (fun _ => w_fX8_put_104 hk41 h) (fun _ => zpc_if (fun _ => w_fX8_put_104 hk41 h) (fun _ => zpc_bu (w_fX8_putMeant h) (fun σ6 hσ6 => w_fX8_put_110 hk41 hσ6)))) (fun _ => w_fX8_put_110 hk41 h))))))))
theorem w_fX8_put_41 {σ0 : zSt} : ∀ (n : Nat) (y0 : zSt) (y1 : Nat) (y2 : Int32) (y3 : Int32) (y4 : Int32), zKeC σ0 y0 → zpc (fX8_put_41 n y0 y1 y2 y3 y4) (fun r => zKeC σ0 (r)) := by
  intro n
  induction n with
  | zero => intro y0 y1 y2 y3 y4 h; exact zpc_none
  | succ n ih => intro y0 y1 y2 y3 y4 h; exact w_fX8_put_41_body ih h
theorem w_fX8_put_4_body {σ0 : zSt} {k4 : zSt → Nat → Int32 → Int32 → Option (zSt)} (hk4 : ∀ (y0 : zSt) (y1 : Nat) (y2 : Int32) (y3 : Int32), zKeC σ0 y0 → zpc (k4 y0 y1 y2 y3) (fun r => zKeC σ0 (r))) {σ : zSt} {n1 : Nat} {x2 : Int32} {x3 : Int32} (h : zKeC σ0 σ) : zpc (fX8_put_4_body k4 σ n1 x2 x3) (fun r => zKeC σ0 (r)) := by
  unfold fX8_put_4_body
  exact zpc_ck (zpc_if (fun _ => w_fX8_put_41 _ _ _ _ _ _ h) (fun _ => zpc_ck (zpc_ck (zpc_if (fun _ => w_fX8_put_28 hk4 h) (fun _ => w_fX8_put_28 hk4 h)))))
theorem w_fX8_put_4 {σ0 : zSt} : ∀ (n : Nat) (y0 : zSt) (y1 : Nat) (y2 : Int32) (y3 : Int32), zKeC σ0 y0 → zpc (fX8_put_4 n y0 y1 y2 y3) (fun r => zKeC σ0 (r)) := by
  intro n
  induction n with
  | zero => intro y0 y1 y2 y3 h; exact zpc_none
  | succ n ih => intro y0 y1 y2 y3 h; exact w_fX8_put_4_body ih h
theorem w_fX8_put {σ0 : zSt} {σ : zSt} {n1 : Nat} (h : zKeC σ0 σ) : zpc (fX8_put σ n1) (fun r => zKeC σ0 (r)) := by
  unfold fX8_put
  exact w_fX8_put_4 _ _ _ _ _ h
theorem w_fX8_split {σ0 : zSt} {σ : zSt} {x1 : Int32} (h : zKeC σ0 σ) : zpc (fX8_split σ x1) (fun r => zKeC σ0 (r)) := by
  unfold fX8_split
  exact zpc_bs (zKeC.wi h (by decide)) (fun σ1 hσ1 => zpc_bs (zKeC.wi hσ1 (by decide)) (fun σ2 hσ2 => zpc_bs (zKeC.wi hσ2 (by decide)) (fun σ3 hσ3 => zpc_some hσ3)))
theorem w_fX8_turnPatterns {σ0 : zSt} {σ : zSt} (h : zKeC σ0 σ) : zpc (fX8_turnPatterns σ) (fun r => zKeC σ0 (r.1)) := by
  unfold fX8_turnPatterns
  exact zpc_if (fun _ => zpc_some h) (fun _ => zpc_if (fun _ => zpc_some h) (fun _ => zpc_if (fun _ => zpc_some h) (fun _ => zpc_some h)))
theorem w_fX8_blockPatterns_17 {σ0 : zSt} {σ : zSt} {s0 : Int32} (h : zKeC σ0 σ) : zpc (fX8_blockPatterns_17 σ s0) (fun r => zKeC σ0 (r.1)) := by
  unfold fX8_blockPatterns_17
  exact zpc_if (fun _ => zpc_some h) (fun _ => zpc_if (fun _ => zpc_some h) (fun _ => zpc_if (fun _ => zpc_some h) (fun _ => zpc_if (fun _ => zpc_some h) (fun _ => zpc_some h))))
theorem w_fX8_blockPatterns {σ0 : zSt} {σ : zSt} (h : zKeC σ0 σ) : zpc (fX8_blockPatterns σ) (fun r => zKeC σ0 (r.1)) := by
  unfold fX8_blockPatterns
  exact zpc_if (fun _ => w_fX8_blockPatterns_17 h) (fun _ => w_fX8_blockPatterns_17 h)
theorem w_fX8_morePatterns_114 {σ0 : zSt} {σ : zSt} {s0 : Nat} (h : zKeC σ0 σ) : zpc (fX8_morePatterns_114 σ s0) (fun r => zKeC σ0 (r.1)) := by
  unfold fX8_morePatterns_114
  exact zpc_some h
theorem w_fX8_morePatterns_89 {σ0 : zSt} {σ : zSt} {s0 : Nat} (h : zKeC σ0 σ) : zpc (fX8_morePatterns_89 σ s0) (fun r => zKeC σ0 (r.1)) := by
  unfold fX8_morePatterns_89
  exact zpc_some h
theorem w_fX8_morePatterns_72 {σ0 : zSt} {σ : zSt} {s0 : Nat} (h : zKeC σ0 σ) : zpc (fX8_morePatterns_72 σ s0) (fun r => zKeC σ0 (r.1)) := by
  unfold fX8_morePatterns_72
  exact zpc_some h
theorem w_fX8_morePatterns {σ0 : zSt} {σ : zSt} (h : zKeC σ0 σ) : zpc (fX8_morePatterns σ) (fun r => zKeC σ0 (r.1)) := by
  unfold fX8_morePatterns
  exact zpc_if (fun _ => zpc_if (fun _ => zpc_if (fun _ => w_fX8_morePatterns_72 h) (fun _ => w_fX8_morePatterns_72 h)) (fun _ => zpc_if (fun _ => zpc_if (fun _ => w_fX8_morePatterns_89 h) (fun _ => w_fX8_morePatterns_89 h)) (fun _ => zpc_if (fun _ => zpc_some h) (fun _ => zpc_if (fun _ => zpc_some h) (fun _ => zpc_if (fun _ => zpc_some h) (fun _ => zpc_if (fun _ => zpc_if (fun _ => w_fX8_morePatterns_114 h) (fun _ => w_fX8_morePatterns_114 h)) (fun _ => zpc_if (fun _ => zpc_some h) (fun _ => zpc_some h)))))))) (fun _ => zpc_some h)
theorem w_fX8_lastPatterns {σ0 : zSt} {σ : zSt} (h : zKeC σ0 σ) : zpc (fX8_lastPatterns σ) (fun r => zKeC σ0 (r.1)) := by
  unfold fX8_lastPatterns
  exact zpc_if (fun _ => zpc_some h) (fun _ => zpc_if (fun _ => zpc_some h) (fun _ => zpc_if (fun _ => zpc_some h) (fun _ => zpc_if (fun _ => zpc_some h) (fun _ => zpc_if (fun _ => zpc_some h) (fun _ => zpc_if (fun _ => zpc_some h) (fun _ => zpc_if (fun _ => zpc_some h) (fun _ => zpc_some h)))))))
theorem w_fX8_firstPatterns {σ0 : zSt} {σ : zSt} (h : zKeC σ0 σ) : zpc (fX8_firstPatterns σ) (fun r => zKeC σ0 (r.1)) := by
  unfold fX8_firstPatterns
  exact zpc_if (fun _ => zpc_some h) (fun _ => zpc_if (fun _ => zpc_some h) (fun _ => zpc_if (fun _ => zpc_some h) (fun _ => zpc_if (fun _ => zpc_some h) (fun _ => zpc_if (fun _ => zpc_some h) (fun _ => zpc_if (fun _ => zpc_some h) (fun _ => zpc_if (fun _ => zpc_some h) (fun _ => zpc_some h)))))))
theorem w_fX8_patternsOf_23 {σ0 : zSt} {σ : zSt} {s0 : Int32} (h : zKeC σ0 σ) : zpc (fX8_patternsOf_23 σ s0) (fun r => zKeC σ0 (r.1)) := by
  unfold fX8_patternsOf_23
  exact zpc_bs (zKeC.wi h (by decide)) (fun σ1 hσ1 => zpc_bi (w_fX8_take hσ1) (fun σ2 v3 hσ2 => zpc_bu (w_fX8_split hσ2) (fun σ4 hσ4 => zpc_bk (w_fX8_turnPatterns hσ4) (fun σ5 v6 hσ5 => zpc_some hσ5))))
theorem w_fX8_patternsOf_73 {σ0 : zSt} {σ : zSt} {s0 : Nat} (h : zKeC σ0 σ) : zpc (fX8_patternsOf_73 σ s0) (fun r => zKeC σ0 (r.1)) := by
  unfold fX8_patternsOf_73
  exact zpc_some h
theorem w_fX8_patternsOf_126 {σ0 : zSt} {σ : zSt} {s0 : Nat} (h : zKeC σ0 σ) : zpc (fX8_patternsOf_126 σ s0) (fun r => zKeC σ0 (r.1)) := by
  unfold fX8_patternsOf_126
  exact zpc_some h
theorem w_fX8_patternsOf {σ0 : zSt} {σ : zSt} {x1 : Int32} (h : zKeC σ0 σ) : zpc (fX8_patternsOf σ x1) (fun r => zKeC σ0 (r.1)) := by
  unfold fX8_patternsOf
  exact zpc_if (fun _ => zpc_if (fun _ => w_fX8_patternsOf_23 h) (fun _ => zpc_bi (w_fX8_take h) (fun σ19 v20 hσ19 => w_fX8_patternsOf_23 hσ19))) (fun _ => zpc_if (fun _ => zpc_bi (w_fX8_take h) (fun σ12 v13 hσ12 => zpc_bu (w_fX8_split hσ12) (fun σ14 hσ14 => zpc_if (fun _ => zpc_bk (w_fX8_blockPatterns hσ14) (fun σ17 v18 hσ17 => w_fX8_patternsOf_73 hσ17)) (fun _ => zpc_bk (w_fX8_morePatterns hσ14) (fun σ15 v16 hσ15 => w_fX8_patternsOf_73 hσ15))))) (fun _ => zpc_bu (w_fX8_split h) (fun σ7 hσ7 => zpc_if (fun _ => zpc_bk (w_fX8_firstPatterns hσ7) (fun σ8 v9 hσ8 => zpc_some hσ8)) (fun _ => zpc_if (fun _ => zpc_if (fun _ => w_fX8_patternsOf_126 hσ7) (fun _ => w_fX8_patternsOf_126 hσ7)) (fun _ => zpc_if (fun _ => zpc_some hσ7) (fun _ => zpc_bk (w_fX8_lastPatterns hσ7) (fun σ10 v11 hσ10 => zpc_some hσ10)))))))
theorem w_fX8_write_82 {σ0 : zSt} {σ : zSt} (h : zKeC σ0 σ) : zpc (fX8_write_82 σ) (fun r => zKeC σ0 (r.1)) := by
  unfold fX8_write_82
  exact zpc_bu (w_fX8_put h) (fun σ1 hσ1 => zpc_some hσ1)
theorem w_fX8_write_124 {σ0 : zSt} {σ : zSt} {x2 : Int32} (h : zKeC σ0 σ) : zpc (fX8_write_124 σ x2) (fun r => zKeC σ0 (r.1)) := by
  unfold fX8_write_124
  exact zpc_bk (w_fX8_patternsOf h) (fun σ2 v3 hσ2 => zpc_bu (w_fX8_put hσ2) (fun σ4 hσ4 => zpc_some hσ4))
theorem w_fX8_write_108 {σ0 : zSt} {σ : zSt} {s0 : Int32} (h : zKeC σ0 σ) : zpc (fX8_write_108 σ s0) (fun r => zKeC σ0 (r.1)) := by
  unfold fX8_write_108
  exact zpc_bs (zKeC.wi h (by decide)) (fun σ5 hσ5 => zpc_bi (w_fX8_take hσ5) (fun σ6 v7 hσ6 => zpc_bi (w_fX5_meansPlace hσ6) (fun σ8 v9 hσ8 => zpc_ck (zpc_bs (zKeC.wi hσ8 (by decide)) (fun σ10 hσ10 => w_fX8_write_124 hσ10)))))
theorem w_fX8_write_47 {σ0 : zSt} {σ : zSt} {x2 : Int32} (h : zKeC σ0 σ) : zpc (fX8_write_47 σ x2) (fun r => zKeC σ0 (r.1)) := by
  unfold fX8_write_47
  exact zpc_bi (w_fX2_read h) (fun σ11 v12 hσ11 => zpc_if (fun _ => w_fX8_write_82 hσ11) (fun _ => zpc_if (fun _ => w_fX8_write_82 hσ11) (fun _ => zpc_if (fun _ => w_fX8_write_82 hσ11) (fun _ => zpc_if (fun _ => w_fX8_write_108 hσ11) (fun _ => w_fX8_write_108 hσ11)))))
theorem w_fX8_write {σ0 : zSt} {σ : zSt} {x1 : Int32} (h : zKeC σ0 σ) : zpc (fX8_write σ x1) (fun r => zKeC σ0 (r.1)) := by
  unfold fX8_write
  exact zpc_bs (zKeC.wi h (by decide)) (fun σ13 hσ13 => zpc_bs (zKeC.wi hσ13 (by decide)) (fun σ14 hσ14 => zpc_bs (zKeC.wi hσ14 (by decide)) (fun σ15 hσ15 => zpc_bs (zKeC.wi hσ15 (by decide)) (fun σ16 hσ16 => zpc_ck (zpc_bs (zKeC.wi hσ16 (by decide)) (fun σ17 hσ17 => zpc_bi (w_fX8_take hσ17) (fun σ18 v19 hσ18 => zpc_if (fun _ => w_fX8_write_47 hσ18) (fun _ => zpc_if (fun _ => w_fX8_write_47 hσ18) (fun _ => w_fX8_write_124 hσ18)))))))))
theorem w_fX8_eightFrom_39 {σ0 : zSt} {k6 : zSt → Int32 → Int64 → Int32 → Option (zSt × Int64)} (hk6 : ∀ (y0 : zSt) (y1 : Int32) (y2 : Int64) (y3 : Int32), zKeC σ0 y0 → zpc (k6 y0 y1 y2 y3) (fun r => zKeC σ0 (r.1))) {σ : zSt} {x1 : Int32} {x2 : Int64} {x4 : Int32} {s0 : Int32} (h : zKeC σ0 σ) : zpc (fX8_eightFrom_39 k6 σ x1 x2 x4 s0) (fun r => zKeC σ0 (r.1)) := by
  unfold fX8_eightFrom_39
  exact zpc_bv (fun v1 _ => zpc_bv (fun v2 _ => hk6 _ _ _ _ h))
theorem w_fX8_eightFrom_38 {σ0 : zSt} {k6 : zSt → Int32 → Int64 → Int32 → Option (zSt × Int64)} (hk6 : ∀ (y0 : zSt) (y1 : Int32) (y2 : Int64) (y3 : Int32), zKeC σ0 y0 → zpc (k6 y0 y1 y2 y3) (fun r => zKeC σ0 (r.1))) {σ : zSt} {x1 : Int32} {x2 : Int64} {x4 : Int32} (h : zKeC σ0 σ) : zpc (fX8_eightFrom_38 k6 σ x1 x2 x4) (fun r => zKeC σ0 (r.1)) := by
  unfold fX8_eightFrom_38
  exact w_fX8_eightFrom_39 hk6 h
theorem w_fX8_eightFrom_6_body {σ0 : zSt} {k6 : zSt → Int32 → Int64 → Int32 → Option (zSt × Int64)} (hk6 : ∀ (y0 : zSt) (y1 : Int32) (y2 : Int64) (y3 : Int32), zKeC σ0 y0 → zpc (k6 y0 y1 y2 y3) (fun r => zKeC σ0 (r.1))) {σ : zSt} {x1 : Int32} {x2 : Int64} {x4 : Int32} (h : zKeC σ0 σ) : zpc (fX8_eightFrom_6_body k6 σ x1 x2 x4) (fun r => zKeC σ0 (r.1)) := by
  unfold fX8_eightFrom_6_body
  exact zpc_if (fun _ => zpc_some h) (fun _ => zpc_if (fun _ => w_fX8_eightFrom_38 hk6 h) (fun _ => zpc_if (fun _ => w_fX8_eightFrom_38 hk6 h) (fun _ => zpc_ck (w_fX8_eightFrom_39 hk6 h))))
theorem w_fX8_eightFrom_6 {σ0 : zSt} : ∀ (n : Nat) (y0 : zSt) (y1 : Int32) (y2 : Int64) (y3 : Int32), zKeC σ0 y0 → zpc (fX8_eightFrom_6 n y0 y1 y2 y3) (fun r => zKeC σ0 (r.1)) := by
  intro n
  induction n with
  | zero => intro y0 y1 y2 y3 h; exact zpc_none
  | succ n ih => intro y0 y1 y2 y3 h; exact w_fX8_eightFrom_6_body ih h
theorem w_fX8_eightFrom {σ0 : zSt} {σ : zSt} {x1 : Int32} (h : zKeC σ0 σ) : zpc (fX8_eightFrom σ x1) (fun r => zKeC σ0 (r.1)) := by
  unfold fX8_eightFrom
  exact w_fX8_eightFrom_6 _ _ _ _ _ h
theorem w_fJ7_fill_53178_k21_5_body {σ0 : zSt} {k5 : zSt → Int32 → Int32 → Int32 → Option (zSt)} (hk5 : ∀ (y0 : zSt) (y1 : Int32) (y2 : Int32) (y3 : Int32), zKeC σ0 y0 → zpc (k5 y0 y1 y2 y3) (fun r => zKeC σ0 (r))) {σ : zSt} {x1 : Int32} {x2 : Int32} {x3 : Int32} (h : zKeC σ0 σ) : zpc (fJ7_fill_53178_k21_5_body k5 σ x1 x2 x3) (fun r => zKeC σ0 (r)) := by
  unfold fJ7_fill_53178_k21_5_body
  exact zpc_if (fun _ => zpc_some h) (fun _ => zpc_ck (zpc_bs (zKeC.wi h (by decide)) (fun σ1 hσ1 => zpc_bv (fun v2 _ => hk5 _ _ _ _ hσ1))))
theorem w_fJ7_fill_53178_k21_5 {σ0 : zSt} : ∀ (n : Nat) (y0 : zSt) (y1 : Int32) (y2 : Int32) (y3 : Int32), zKeC σ0 y0 → zpc (fJ7_fill_53178_k21_5 n y0 y1 y2 y3) (fun r => zKeC σ0 (r)) := by
  intro n
  induction n with
  | zero => intro y0 y1 y2 y3 h; exact zpc_none
  | succ n ih => intro y0 y1 y2 y3 h; exact w_fJ7_fill_53178_k21_5_body ih h
theorem w_fJ7_fill_53178_k21 {σ0 : zSt} {σ : zSt} {x1 : Int32} (h : zKeC σ0 σ) : zpc (fJ7_fill_53178_k21 σ x1) (fun r => zKeC σ0 (r)) := by
  unfold fJ7_fill_53178_k21
  exact w_fJ7_fill_53178_k21_5 _ _ _ _ _ h
theorem w_fJ7_fill_53178_k23_5_body {σ0 : zSt} {k5 : zSt → Int32 → Int32 → Int32 → Option (zSt)} (hk5 : ∀ (y0 : zSt) (y1 : Int32) (y2 : Int32) (y3 : Int32), zKeC σ0 y0 → zpc (k5 y0 y1 y2 y3) (fun r => zKeC σ0 (r))) {σ : zSt} {x1 : Int32} {x2 : Int32} {x3 : Int32} (h : zKeC σ0 σ) : zpc (fJ7_fill_53178_k23_5_body k5 σ x1 x2 x3) (fun r => zKeC σ0 (r)) := by
  unfold fJ7_fill_53178_k23_5_body
  exact zpc_if (fun _ => zpc_some h) (fun _ => zpc_ck (zpc_bs (zKeC.wi h (by decide)) (fun σ1 hσ1 => zpc_bv (fun v2 _ => hk5 _ _ _ _ hσ1))))
theorem w_fJ7_fill_53178_k23_5 {σ0 : zSt} : ∀ (n : Nat) (y0 : zSt) (y1 : Int32) (y2 : Int32) (y3 : Int32), zKeC σ0 y0 → zpc (fJ7_fill_53178_k23_5 n y0 y1 y2 y3) (fun r => zKeC σ0 (r)) := by
  intro n
  induction n with
  | zero => intro y0 y1 y2 y3 h; exact zpc_none
  | succ n ih => intro y0 y1 y2 y3 h; exact w_fJ7_fill_53178_k23_5_body ih h
theorem w_fJ7_fill_53178_k23 {σ0 : zSt} {σ : zSt} {x1 : Int32} (h : zKeC σ0 σ) : zpc (fJ7_fill_53178_k23 σ x1) (fun r => zKeC σ0 (r)) := by
  unfold fJ7_fill_53178_k23
  exact w_fJ7_fill_53178_k23_5 _ _ _ _ _ h
theorem w_fX9_clear {σ0 : zSt} {σ : zSt} (h : zKeC σ0 σ) : zpc (fX9_clear σ) (fun r => zKeC σ0 (r)) := by
  unfold fX9_clear
  exact zpc_bu (w_fJ7_fill_53178_k21 h) (fun σ1 hσ1 => zpc_bu (w_fJ7_fill_53178_k23 hσ1) (fun σ2 hσ2 => zpc_some hσ2))
theorem w_fX9_keep {σ0 : zSt} {σ : zSt} (h : zKeC σ0 σ) : zpc (fX9_keep σ) (fun r => zKeC σ0 (r)) := by
  unfold fX9_keep
  exact zpc_ck (zpc_bs (zKeC.ci h (by decide)) (fun σ1 hσ1 => zpc_ck (zpc_bs (zKeC.ci hσ1 (by decide)) (fun σ2 hσ2 => zpc_some hσ2))))
theorem w_fX9_bringBack {σ0 : zSt} {σ : zSt} (h : zKeC σ0 σ) : zpc (fX9_bringBack σ) (fun r => zKeC σ0 (r)) := by
  unfold fX9_bringBack
  exact zpc_ck (zpc_bs (zKeC.ci h (by decide)) (fun σ1 hσ1 => zpc_ck (zpc_bs (zKeC.ci hσ1 (by decide)) (fun σ2 hσ2 => zpc_some hσ2))))
theorem w_fX9_has_27 {σ0 : zSt} {σ : zSt} {s0 : Int32} (h : zKeC σ0 σ) : zpc (fX9_has_27 σ s0) (fun r => zKeC σ0 (r.1)) := by
  unfold fX9_has_27
  exact zpc_ck (zpc_some h)
theorem w_fX9_has_26 {σ0 : zSt} {σ : zSt} (h : zKeC σ0 σ) : zpc (fX9_has_26 σ) (fun r => zKeC σ0 (r.1)) := by
  unfold fX9_has_26
  exact w_fX9_has_27 h
theorem w_fX9_has_22 {σ0 : zSt} {σ : zSt} (h : zKeC σ0 σ) : zpc (fX9_has_22 σ) (fun r => zKeC σ0 (r.1)) := by
  unfold fX9_has_22
  exact w_fX9_has_27 h
theorem w_fX9_has_10 {σ0 : zSt} {σ : zSt} {x0 : Int32} (h : zKeC σ0 σ) : zpc (fX9_has_10 σ x0) (fun r => zKeC σ0 (r.1)) := by
  unfold fX9_has_10
  exact zpc_if (fun _ => w_fX9_has_26 h) (fun _ => zpc_if (fun _ => w_fX9_has_26 h) (fun _ => w_fX9_has_22 h))
theorem w_fX9_has {σ0 : zSt} {σ : zSt} {x0 : Int32} (h : zKeC σ0 σ) : zpc (fX9_has σ x0) (fun r => zKeC σ0 (r.1)) := by
  unfold fX9_has
  exact zpc_if (fun _ => w_fX9_has_10 h) (fun _ => zpc_if (fun _ => w_fX9_has_22 h) (fun _ => w_fX9_has_10 h))
theorem w_fX9_asks_54 {σ0 : zSt} {σ : zSt} {s0 : Int32} (h : zKeC σ0 σ) : zpc (fX9_asks_54 σ s0) (fun r => zKeC σ0 (r.1)) := by
  unfold fX9_asks_54
  exact zpc_ck (zpc_some h)
theorem w_fX9_asks_53 {σ0 : zSt} {σ : zSt} (h : zKeC σ0 σ) : zpc (fX9_asks_53 σ) (fun r => zKeC σ0 (r.1)) := by
  unfold fX9_asks_53
  exact w_fX9_asks_54 h
theorem w_fX9_asks_49 {σ0 : zSt} {σ : zSt} (h : zKeC σ0 σ) : zpc (fX9_asks_49 σ) (fun r => zKeC σ0 (r.1)) := by
  unfold fX9_asks_49
  exact w_fX9_asks_54 h
theorem w_fX9_asks_26 {σ0 : zSt} {σ : zSt} (h : zKeC σ0 σ) : zpc (fX9_asks_26 σ) (fun r => zKeC σ0 (r.1)) := by
  unfold fX9_asks_26
  exact zpc_ck (zpc_if (fun _ => w_fX9_asks_53 h) (fun _ => zpc_ck (zpc_if (fun _ => w_fX9_asks_49 h) (fun _ => w_fX9_asks_53 h))))
theorem w_fX9_asks {σ0 : zSt} {σ : zSt} (h : zKeC σ0 σ) : zpc (fX9_asks σ) (fun r => zKeC σ0 (r.1)) := by
  unfold fX9_asks
  exact zpc_ck (zpc_if (fun _ => w_fX9_asks_26 h) (fun _ => zpc_ck (zpc_if (fun _ => w_fX9_asks_26 h) (fun _ => w_fX9_asks_49 h))))
theorem w_fX9_value_85 {σ0 : zSt} {σ : zSt} {x1 : Int32} (h : zKeC σ0 σ) : zpc (fX9_value_85 σ x1) (fun r => zKeC σ0 (r.1)) := by
  unfold fX9_value_85
  exact zpc_bi (w_fX9_held h) (fun σ1 v2 hσ1 => zpc_some hσ1)
theorem w_fX9_value_64 {σ0 : zSt} {σ : zSt} {s0 : Int32} (h : zKeC σ0 σ) : zpc (fX9_value_64 σ s0) (fun r => zKeC σ0 (r.1)) := by
  unfold fX9_value_64
  exact zpc_some h
theorem w_fX9_value {σ0 : zSt} {σ : zSt} {x1 : Int32} (h : zKeC σ0 σ) : zpc (fX9_value σ x1) (fun r => zKeC σ0 (r.1)) := by
  unfold fX9_value
  exact zpc_if (fun _ => zpc_bi (w_fX9_asks h) (fun σ3 v4 hσ3 => zpc_if (fun _ => w_fX9_value_64 hσ3) (fun _ => w_fX9_value_64 hσ3))) (fun _ => zpc_if (fun _ => w_fX9_value_85 h) (fun _ => zpc_if (fun _ => w_fX9_value_85 h) (fun _ => zpc_if (fun _ => w_fX9_value_85 h) (fun _ => zpc_if (fun _ => w_fX9_value_85 h) (fun _ => zpc_if (fun _ => zpc_bi (w_fX9_mode h) (fun σ5 v6 hσ5 => zpc_some hσ5)) (fun _ => zpc_if (fun _ => zpc_bi (w_fX9_height h) (fun σ7 v8 hσ7 => zpc_some hσ7)) (fun _ => zpc_if (fun _ => zpc_bi (w_fX9_hCount h) (fun σ9 v10 hσ9 => zpc_some hσ9)) (fun _ => zpc_if (fun _ => zpc_bi (w_fX9_vCount h) (fun σ11 v12 hσ11 => zpc_some hσ11)) (fun _ => w_fX9_value_85 h)))))))))
theorem w_fX9_eightFrom_6_body {σ0 : zSt} {k6 : zSt → Int32 → Int64 → Int32 → Option (zSt × Int64)} (hk6 : ∀ (y0 : zSt) (y1 : Int32) (y2 : Int64) (y3 : Int32), zKeC σ0 y0 → zpc (k6 y0 y1 y2 y3) (fun r => zKeC σ0 (r.1))) {σ : zSt} {x1 : Int32} {x2 : Int64} {x4 : Int32} (h : zKeC σ0 σ) : zpc (fX9_eightFrom_6_body k6 σ x1 x2 x4) (fun r => zKeC σ0 (r.1)) := by
  unfold fX9_eightFrom_6_body
  exact zpc_if (fun _ => zpc_some h) (fun _ => zpc_ck (zpc_bv (fun v1 _ => zpc_bv (fun v2 _ => hk6 _ _ _ _ h))))
theorem w_fX9_eightFrom_6 {σ0 : zSt} : ∀ (n : Nat) (y0 : zSt) (y1 : Int32) (y2 : Int64) (y3 : Int32), zKeC σ0 y0 → zpc (fX9_eightFrom_6 n y0 y1 y2 y3) (fun r => zKeC σ0 (r.1)) := by
  intro n
  induction n with
  | zero => intro y0 y1 y2 y3 h; exact zpc_none
  | succ n ih => intro y0 y1 y2 y3 h; exact w_fX9_eightFrom_6_body ih h
theorem w_fX9_eightFrom {σ0 : zSt} {σ : zSt} {x1 : Int32} (h : zKeC σ0 σ) : zpc (fX9_eightFrom σ x1) (fun r => zKeC σ0 (r.1)) := by
  unfold fX9_eightFrom
  exact w_fX9_eightFrom_6 _ _ _ _ _ h
theorem w_fX9_passes {σ0 : zSt} {σ : zSt} {x1 : Int32} (h : zKeC σ0 σ) : zpc (fX9_passes σ x1) (fun r => zKeC σ0 (r.1)) := by
  unfold fX9_passes
  exact zpc_ck (zpc_ck (zpc_bs (zKeC.wi h (by decide)) (fun σ1 hσ1 => zpc_ck (zpc_if (fun _ => zpc_ck (zpc_ck (zpc_bs (zKeC.wi hσ1 (by decide)) (fun σ2 hσ2 => zpc_ck (zpc_some hσ2))))) (fun _ => zpc_ck (zpc_some hσ1))))))
theorem w_fX9_goesToNextLine_159 {σ0 : zSt} {σ : zSt} {x2 : Int32} (h : zKeC σ0 σ) : zpc (fX9_goesToNextLine_159 σ x2) (fun r => zKeC σ0 (r.1)) := by
  unfold fX9_goesToNextLine_159
  exact zpc_ck (zpc_some h)
theorem w_fX9_goesToNextLine_133 {σ0 : zSt} {σ : zSt} {x1 : Int32} {x2 : Int32} (h : zKeC σ0 σ) : zpc (fX9_goesToNextLine_133 σ x1 x2) (fun r => zKeC σ0 (r.1)) := by
  unfold fX9_goesToNextLine_133
  exact zpc_ck (zpc_if (fun _ => zpc_ck (zpc_ck (zpc_bs (zKeC.wi h (by decide)) (fun σ1 hσ1 => w_fX9_goesToNextLine_159 hσ1)))) (fun _ => w_fX9_goesToNextLine_159 h))
theorem w_fX9_goesToNextLine_106 {σ0 : zSt} {σ : zSt} {x1 : Int32} {s0 : Int32} (h : zKeC σ0 σ) : zpc (fX9_goesToNextLine_106 σ x1 s0) (fun r => zKeC σ0 (r.1)) := by
  unfold fX9_goesToNextLine_106
  exact zpc_if (fun _ => w_fX9_goesToNextLine_133 h) (fun _ => zpc_ck (zpc_bs (zKeC.wi h (by decide)) (fun σ2 hσ2 => zpc_ck (zpc_ck (zpc_bs (zKeC.wi hσ2 (by decide)) (fun σ3 hσ3 => w_fX9_goesToNextLine_133 hσ3))))))
theorem w_fX9_goesToNextLine_76 {σ0 : zSt} {σ : zSt} {x1 : Int32} (h : zKeC σ0 σ) : zpc (fX9_goesToNextLine_76 σ x1) (fun r => zKeC σ0 (r.1)) := by
  unfold fX9_goesToNextLine_76
  exact zpc_ck (zpc_ck (zpc_bs (zKeC.wi h (by decide)) (fun σ4 hσ4 => zpc_ck (zpc_if (fun _ => w_fX9_goesToNextLine_106 hσ4) (fun _ => w_fX9_goesToNextLine_106 hσ4)))))
theorem w_fX9_goesToNextLine {σ0 : zSt} {σ : zSt} (h : zKeC σ0 σ) : zpc (fX9_goesToNextLine σ) (fun r => zKeC σ0 (r.1)) := by
  unfold fX9_goesToNextLine
  exact zpc_bi (w_fX9_height h) (fun σ5 v6 hσ5 => zpc_ck (zpc_if (fun _ => zpc_ck (zpc_ck (zpc_bs (zKeC.wi hσ5 (by decide)) (fun σ7 hσ7 => zpc_ck (zpc_if (fun _ => w_fX9_goesToNextLine_76 hσ7) (fun _ => zpc_ck (zpc_ck (zpc_bs (zKeC.wi hσ7 (by decide)) (fun σ8 hσ8 => zpc_ck (zpc_bs (zKeC.wi hσ8 (by decide)) (fun σ9 hσ9 => w_fX9_goesToNextLine_76 hσ9))))))))))) (fun _ => zpc_ck (zpc_ck (zpc_bs (zKeC.wi hσ5 (by decide)) (fun σ10 hσ10 => w_fX9_goesToNextLine_76 hσ10))))))
theorem w_fJ7_fill_53178_k32_5_body {σ0 : zSt} {k5 : zSt → Int32 → Int32 → Int32 → Option (zSt)} (hk5 : ∀ (y0 : zSt) (y1 : Int32) (y2 : Int32) (y3 : Int32), zKeC σ0 y0 → zpc (k5 y0 y1 y2 y3) (fun r => zKeC σ0 (r))) {σ : zSt} {x1 : Int32} {x2 : Int32} {x3 : Int32} (h : zKeC σ0 σ) : zpc (fJ7_fill_53178_k32_5_body k5 σ x1 x2 x3) (fun r => zKeC σ0 (r)) := by
  unfold fJ7_fill_53178_k32_5_body
  exact zpc_if (fun _ => zpc_some h) (fun _ => zpc_ck (zpc_bs (zKeC.wi h (by decide)) (fun σ1 hσ1 => zpc_bv (fun v2 _ => hk5 _ _ _ _ hσ1))))
theorem w_fJ7_fill_53178_k32_5 {σ0 : zSt} : ∀ (n : Nat) (y0 : zSt) (y1 : Int32) (y2 : Int32) (y3 : Int32), zKeC σ0 y0 → zpc (fJ7_fill_53178_k32_5 n y0 y1 y2 y3) (fun r => zKeC σ0 (r)) := by
  intro n
  induction n with
  | zero => intro y0 y1 y2 y3 h; exact zpc_none
  | succ n ih => intro y0 y1 y2 y3 h; exact w_fJ7_fill_53178_k32_5_body ih h
theorem w_fJ7_fill_53178_k32 {σ0 : zSt} {σ : zSt} {x1 : Int32} (h : zKeC σ0 σ) : zpc (fJ7_fill_53178_k32 σ x1) (fun r => zKeC σ0 (r)) := by
  unfold fJ7_fill_53178_k32
  exact w_fJ7_fill_53178_k32_5 _ _ _ _ _ h
theorem w_fX10_clear_36_body {σ0 : zSt} {k36 : zSt → Int32 → Option (zSt)} (hk36 : ∀ (y0 : zSt) (y1 : Int32), zKeC σ0 y0 → zpc (k36 y0 y1) (fun r => zKeC σ0 (r))) {σ : zSt} {x2 : Int32} (h : zKeC σ0 σ) : zpc (fX10_clear_36_body k36 σ x2) (fun r => zKeC σ0 (r)) := by
  unfold fX10_clear_36_body
  exact zpc_if (fun _ => zpc_some h) (fun _ => zpc_ck (zpc_bs (zKeC.wi h (by decide)) (fun σ1 hσ1 => zpc_ck (zpc_bs (zKeC.wi hσ1 (by decide)) (fun σ2 hσ2 => zpc_bv (fun v3 _ => hk36 _ _ hσ2))))))
theorem w_fX10_clear_36 {σ0 : zSt} : ∀ (n : Nat) (y0 : zSt) (y1 : Int32), zKeC σ0 y0 → zpc (fX10_clear_36 n y0 y1) (fun r => zKeC σ0 (r)) := by
  intro n
  induction n with
  | zero => intro y0 y1 h; exact zpc_none
  | succ n ih => intro y0 y1 h; exact w_fX10_clear_36_body ih h
theorem w_fX10_clear {σ0 : zSt} {σ : zSt} (h : zKeC σ0 σ) : zpc (fX10_clear σ) (fun r => zKeC σ0 (r)) := by
  unfold fX10_clear
  exact zpc_ck (zpc_bv (fun v4 _ => zpc_bu (w_fJ7_fill_53178_k32 h) (fun σ5 hσ5 => zpc_ck (zpc_bs (zKeC.wi hσ5 (by decide)) (fun σ6 hσ6 => zpc_ck (zpc_bs (zKeC.wi hσ6 (by decide)) (fun σ7 hσ7 => w_fX10_clear_36 _ _ _ hσ7)))))))
theorem w_fX10_keep {σ0 : zSt} {σ : zSt} (h : zKeC σ0 σ) : zpc (fX10_keep σ) (fun r => zKeC σ0 (r)) := by
  unfold fX10_keep
  exact zpc_ck (zpc_bs (zKeC.ci h (by decide)) (fun σ1 hσ1 => zpc_some hσ1))
theorem w_fX10_bringBack {σ0 : zSt} {σ : zSt} (h : zKeC σ0 σ) : zpc (fX10_bringBack σ) (fun r => zKeC σ0 (r)) := by
  unfold fX10_bringBack
  exact zpc_ck (zpc_bs (zKeC.ci h (by decide)) (fun σ1 hσ1 => zpc_some hσ1))
theorem w_fX10_has_37 {σ0 : zSt} {σ : zSt} {s0 : Int32} (h : zKeC σ0 σ) : zpc (fX10_has_37 σ s0) (fun r => zKeC σ0 (r.1)) := by
  unfold fX10_has_37
  exact zpc_ck (zpc_some h)
theorem w_fX10_has_36 {σ0 : zSt} {σ : zSt} (h : zKeC σ0 σ) : zpc (fX10_has_36 σ) (fun r => zKeC σ0 (r.1)) := by
  unfold fX10_has_36
  exact w_fX10_has_37 h
theorem w_fX10_has_32 {σ0 : zSt} {σ : zSt} (h : zKeC σ0 σ) : zpc (fX10_has_32 σ) (fun r => zKeC σ0 (r.1)) := by
  unfold fX10_has_32
  exact w_fX10_has_37 h
theorem w_fX10_has_10 {σ0 : zSt} {σ : zSt} {x0 : Int32} (h : zKeC σ0 σ) : zpc (fX10_has_10 σ x0) (fun r => zKeC σ0 (r.1)) := by
  unfold fX10_has_10
  exact zpc_if (fun _ => w_fX10_has_36 h) (fun _ => zpc_if (fun _ => w_fX10_has_36 h) (fun _ => zpc_if (fun _ => w_fX10_has_36 h) (fun _ => w_fX10_has_32 h)))
theorem w_fX10_has {σ0 : zSt} {σ : zSt} {x0 : Int32} (h : zKeC σ0 σ) : zpc (fX10_has σ x0) (fun r => zKeC σ0 (r.1)) := by
  unfold fX10_has
  exact zpc_if (fun _ => w_fX10_has_10 h) (fun _ => zpc_if (fun _ => w_fX10_has_32 h) (fun _ => w_fX10_has_10 h))
theorem w_fX11_clearAll {σ0 : zSt} {σ : zSt} (h : zKeC σ0 σ) : zpc (fX11_clearAll σ) (fun r => zKeC σ0 (r)) := by
  unfold fX11_clearAll
  exact zpc_bu (w_fX2_clearPages h) (fun σ1 hσ1 => zpc_bu (w_fX9_clear hσ1) (fun σ2 hσ2 => zpc_bu (w_fX7_clear hσ2) (fun σ3 hσ3 => zpc_bu (w_fX10_clear hσ3) (fun σ4 hσ4 => zpc_bu (w_fX4_clear hσ4) (fun σ5 hσ5 => zpc_bu (w_fX5_clear hσ5) (fun σ6 hσ6 => zpc_some hσ6))))))
theorem w_fX11_endLine_62 {σ0 : zSt} {σ : zSt} (h : zKeC σ0 σ) : zpc (fX11_endLine_62 σ) (fun r => zKeC σ0 (r)) := by
  unfold fX11_endLine_62
  exact zpc_some h
theorem w_fX11_endLine_26 {σ0 : zSt} {σ : zSt} (h : zKeC σ0 σ) : zpc (fX11_endLine_26 σ) (fun r => zKeC σ0 (r)) := by
  unfold fX11_endLine_26
  exact zpc_bi (w_fX9_goesToNextLine h) (fun σ1 v2 hσ1 => zpc_if (fun _ => w_fX11_endLine_62 hσ1) (fun _ => zpc_bu (w_fX0_countPicture hσ1) (fun σ3 hσ3 => zpc_bll (w_fX0_count hσ3) (fun σ4 v5 hσ4 => zpc_bu (w_fX1_carryOutPlans hσ4) (fun σ6 hσ6 => w_fX11_endLine_62 hσ6)))))
theorem w_fX11_endLine {σ0 : zSt} {σ : zSt} (h : zKeC σ0 σ) : zpc (fX11_endLine σ) (fun r => zKeC σ0 (r)) := by
  unfold fX11_endLine
  exact zpc_bi (w_fX9_held h) (fun σ7 v8 hσ7 => zpc_bi (w_fX9_height hσ7) (fun σ9 v10 hσ9 => zpc_if (fun _ => w_fX11_endLine_26 hσ9) (fun _ => zpc_bu (w_fX3_draw hσ9) (fun σ11 hσ11 => w_fX11_endLine_26 hσ11))))
theorem w_fX11_run_135 {σ0 : zSt} {σ : zSt} {x5 : Int32} (h : zKeC σ0 σ) : zpc (fX11_run_135 σ x5) (fun r => zKeC σ0 (r.1)) := by
  unfold fX11_run_135
  exact zpc_some h
theorem w_fX11_run_120 {σ0 : zSt} {k15 : zSt → Int32 → Int64 → Int32 → Option (zSt × Int32)} (hk15 : ∀ (y0 : zSt) (y1 : Int32) (y2 : Int64) (y3 : Int32), zKeC σ0 y0 → zpc (k15 y0 y1 y2 y3) (fun r => zKeC σ0 (r.1))) {σ : zSt} {x1 : Int32} {x3 : Int64} {x5 : Int32} {x7 : Int32} (h : zKeC σ0 σ) : zpc (fX11_run_120 k15 σ x1 x3 x5 x7) (fun r => zKeC σ0 (r.1)) := by
  unfold fX11_run_120
  exact zpc_bu (w_fX0_pass h) (fun σ1 hσ1 => zpc_bv (fun v2 _ => hk15 _ _ _ _ hσ1))
theorem w_fX11_run_104 {σ0 : zSt} {k15 : zSt → Int32 → Int64 → Int32 → Option (zSt × Int32)} (hk15 : ∀ (y0 : zSt) (y1 : Int32) (y2 : Int64) (y3 : Int32), zKeC σ0 y0 → zpc (k15 y0 y1 y2 y3) (fun r => zKeC σ0 (r.1))) {σ : zSt} {x1 : Int32} {x3 : Int64} {x5 : Int32} {x7 : Int32} (h : zKeC σ0 σ) : zpc (fX11_run_104 k15 σ x1 x3 x5 x7) (fun r => zKeC σ0 (r.1)) := by
  unfold fX11_run_104
  exact zpc_bi (w_fX9_passes h) (fun σ3 v4 hσ3 => zpc_if (fun _ => w_fX11_run_120 hk15 hσ3) (fun _ => zpc_bu (w_fX11_endLine hσ3) (fun σ5 hσ5 => w_fX11_run_120 hk15 hσ5)))
theorem w_fX11_run_65 {σ0 : zSt} {k15 : zSt → Int32 → Int64 → Int32 → Option (zSt × Int32)} (hk15 : ∀ (y0 : zSt) (y1 : Int32) (y2 : Int64) (y3 : Int32), zKeC σ0 y0 → zpc (k15 y0 y1 y2 y3) (fun r => zKeC σ0 (r.1))) {σ : zSt} {x1 : Int32} {x3 : Int64} {x5 : Int32} {x6 : Int32} (h : zKeC σ0 σ) : zpc (fX11_run_65 k15 σ x1 x3 x5 x6) (fun r => zKeC σ0 (r.1)) := by
  unfold fX11_run_65
  exact zpc_bu (w_fX1_noteStep h) (fun σ6 hσ6 => zpc_bi (w_fX9_asks hσ6) (fun σ7 v8 hσ7 => zpc_bi (w_fX5_answerCalls hσ7) (fun σ9 v10 hσ9 => zpc_if (fun _ => zpc_bi (w_fX5_carryOn hσ9) (fun σ11 v12 hσ11 => w_fX11_run_104 hk15 hσ11)) (fun _ => w_fX11_run_104 hk15 hσ9))))
theorem w_fX11_run_15_body {σ0 : zSt} {k15 : zSt → Int32 → Int64 → Int32 → Option (zSt × Int32)} (hk15 : ∀ (y0 : zSt) (y1 : Int32) (y2 : Int64) (y3 : Int32), zKeC σ0 y0 → zpc (k15 y0 y1 y2 y3) (fun r => zKeC σ0 (r.1))) {σ : zSt} {x1 : Int32} {x3 : Int64} {x5 : Int32} (h : zKeC σ0 σ) : zpc (fX11_run_15_body k15 σ x1 x3 x5) (fun r => zKeC σ0 (r.1)) := by
  unfold fX11_run_15_body
  exact zpc_if (fun _ => w_fX11_run_135 h) (fun _ => zpc_bll (w_fX0_count h) (fun σ13 v14 hσ13 => zpc_if (fun _ => w_fX11_run_135 hσ13) (fun _ => zpc_bi (w_fX5_value hσ13) (fun σ15 v16 hσ15 => zpc_if (fun _ => w_fX11_run_65 hk15 hσ15) (fun _ => zpc_bi (w_fX1_isStop hσ15) (fun σ17 v18 hσ17 => zpc_if (fun _ => w_fX11_run_65 hk15 hσ17) (fun _ => w_fX11_run_135 hσ17)))))))
theorem w_fX11_run_15 {σ0 : zSt} : ∀ (n : Nat) (y0 : zSt) (y1 : Int32) (y2 : Int64) (y3 : Int32), zKeC σ0 y0 → zpc (fX11_run_15 n y0 y1 y2 y3) (fun r => zKeC σ0 (r.1)) := by
  intro n
  induction n with
  | zero => intro y0 y1 y2 y3 h; exact zpc_none
  | succ n ih => intro y0 y1 y2 y3 h; exact w_fX11_run_15_body ih h
theorem w_fX11_run {σ0 : zSt} {σ : zSt} {x1 : Int32} {x2 : Int32} (h : zKeC σ0 σ) : zpc (fX11_run σ x1 x2) (fun r => zKeC σ0 (r.1)) := by
  unfold fX11_run
  exact zpc_bll (w_fX0_count h) (fun σ19 v20 hσ19 => zpc_bv (fun v21 _ => w_fX11_run_15 _ _ _ _ _ hσ19))
theorem w_fX11_reset {σ0 : zSt} {σ : zSt} (h : zKeC σ0 σ) : zpc (fX11_reset σ) (fun r => zKeC σ0 (r)) := by
  unfold fX11_reset
  exact zpc_bu (w_fX11_clearAll h) (fun σ1 hσ1 => zpc_some hσ1)
theorem w_fX11_pause_26 {σ0 : zSt} {σ : zSt} {s0 : Int32} (h : zKeC σ0 σ) : zpc (fX11_pause_26 σ s0) (fun r => zKeC σ0 (r.1)) := by
  unfold fX11_pause_26
  exact zpc_ck (zpc_some h)
theorem w_fX11_pause_14 {σ0 : zSt} {σ : zSt} (h : zKeC σ0 σ) : zpc (fX11_pause_14 σ) (fun r => zKeC σ0 (r.1)) := by
  unfold fX11_pause_14
  exact zpc_if (fun _ => w_fX11_pause_26 h) (fun _ => w_fX11_pause_26 h)
theorem w_fX11_pause {σ0 : zSt} {σ : zSt} (h : zKeC σ0 σ) : zpc (fX11_pause σ) (fun r => zKeC σ0 (r.1)) := by
  unfold fX11_pause
  exact zpc_if (fun _ => zpc_bu (w_fX5_askForPause h) (fun σ1 hσ1 => w_fX11_pause_14 hσ1)) (fun _ => w_fX11_pause_14 h)
theorem w_fX11_start {σ0 : zSt} {σ : zSt} {x1 : Int32} (h : zKeC σ0 σ) : zpc (fX11_start σ x1) (fun r => zKeC σ0 (r)) := by
  unfold fX11_start
  exact zpc_bu (w_fX4_holdStart h) (fun σ1 hσ1 => zpc_some hσ1)
theorem w_fX11_tell {σ0 : zSt} {σ : zSt} {x1 : Int32} (h : zKeC σ0 σ) : zpc (fX11_tell σ x1) (fun r => zKeC σ0 (r.1)) := by
  unfold fX11_tell
  exact zpc_bi (w_fX8_write h) (fun σ1 v2 hσ1 => zpc_some hσ1)
theorem w_fX11_save {σ0 : zSt} {σ : zSt} (h : zKeC σ0 σ) : zpc (fX11_save σ) (fun r => zKeC σ0 (r)) := by
  unfold fX11_save
  exact zpc_bu (w_fX2_keep h) (fun σ1 hσ1 => zpc_bu (w_fX9_keep hσ1) (fun σ2 hσ2 => zpc_bu (w_fX3_keep hσ2) (fun σ3 hσ3 => zpc_bu (w_fX7_keep hσ3) (fun σ4 hσ4 => zpc_bu (w_fX10_keep hσ4) (fun σ5 hσ5 => zpc_bu (w_fX4_keep hσ5) (fun σ6 hσ6 => zpc_bu (w_fX5_keep hσ6) (fun σ7 hσ7 => zpc_bu (w_fX0_keep hσ7) (fun σ8 hσ8 => zpc_bu (w_fX1_keep hσ8) (fun σ9 hσ9 => zpc_ck (zpc_bs (zKeC.wi hσ9 (by decide)) (fun σ10 hσ10 => zpc_some hσ10)))))))))))
theorem w_fX11_peek {σ0 : zSt} {σ : zSt} {x1 : Int32} (h : zKeC σ0 σ) : zpc (fX11_peek σ x1) (fun r => zKeC σ0 (r.1)) := by
  unfold fX11_peek
  exact zpc_bi (w_fX2_read h) (fun σ1 v2 hσ1 => zpc_some hσ1)
theorem w_fX11_poke {σ0 : zSt} {σ : zSt} {x1 : Int32} {x2 : Int32} (h : zKeC σ0 σ) : zpc (fX11_poke σ x1 x2) (fun r => zKeC σ0 (r)) := by
  unfold fX11_poke
  exact zpc_bu (w_fX2_write h) (fun σ1 hσ1 => zpc_some hσ1)
theorem w_fX11_in {σ0 : zSt} {σ : zSt} {x1 : Int32} (h : zKeC σ0 σ) : zpc (fX11_in σ x1) (fun r => zKeC σ0 (r.1)) := by
  unfold fX11_in
  exact zpc_bi (w_fX4_read h) (fun σ1 v2 hσ1 => zpc_some hσ1)
theorem w_fX11_out {σ0 : zSt} {σ : zSt} {x1 : Int32} {x2 : Int32} (h : zKeC σ0 σ) : zpc (fX11_out σ x1 x2) (fun r => zKeC σ0 (r)) := by
  unfold fX11_out
  exact zpc_bu (w_fX4_write h) (fun σ1 hσ1 => zpc_some hσ1)
theorem w_fX11_wipe {σ0 : zSt} {σ : zSt} (h : zKeC σ0 σ) : zpc (fX11_wipe σ) (fun r => zKeC σ0 (r)) := by
  unfold fX11_wipe
  exact zpc_bu (w_fX2_clearBattery h) (fun σ1 hσ1 => zpc_some hσ1)
theorem w_fX11_video {σ0 : zSt} {σ : zSt} {x1 : Int32} (h : zKeC σ0 σ) : zpc (fX11_video σ x1) (fun r => zKeC σ0 (r.1)) := by
  unfold fX11_video
  exact zpc_bll (w_fX9_eightFrom h) (fun σ1 v2 hσ1 => zpc_some hσ1)
theorem w_fX11_trace {σ0 : zSt} {σ : zSt} {x1 : Int32} (h : zKeC σ0 σ) : zpc (fX11_trace σ x1) (fun r => zKeC σ0 (r.1)) := by
  unfold fX11_trace
  exact zpc_bi (w_fX1_stepBack h) (fun σ1 v2 hσ1 => zpc_some hσ1)
theorem w_fX11_card_10 {σ0 : zSt} {σ : zSt} (h : zKeC σ0 σ) : zpc (fX11_card_10 σ) (fun r => zKeC σ0 (zRis r)) := by
  unfold fX11_card_10
  exact zpc_some h
theorem w_fX11_card {σ0 : zSt} {σ : zSt} {x1 : Int32} (h : zKeC σ0 σ) : zpc (fX11_card σ x1) (fun r => zKeC σ0 (zRis r)) := by
  unfold fX11_card
  exact zpc_if (fun _ => w_fX11_card_10 h) (fun _ => zpc_if (fun _ => zpc_bi (w_fX2_aboutCard h) (fun σ1 v2 hσ1 => zpc_some hσ1)) (fun _ => w_fX11_card_10 h))
theorem w_fX11_step_12 {σ0 : zSt} {σ : zSt} (h : zKeC σ0 σ) : zpc (fX11_step_12 σ) (fun r => zKeC σ0 (zRis r)) := by
  unfold fX11_step_12
  exact zpc_some h
theorem w_fX11_step {σ0 : zSt} {σ : zSt} {x1 : Int32} (h : zKeC σ0 σ) : zpc (fX11_step σ x1) (fun r => zKeC σ0 (zRis r)) := by
  unfold fX11_step
  exact zpc_if (fun _ => w_fX11_step_12 h) (fun _ => zpc_if (fun _ => zpc_bi (w_fX11_run h) (fun σ1 v2 hσ1 => zpc_some hσ1)) (fun _ => w_fX11_step_12 h))
theorem w_fX11_picture_10 {σ0 : zSt} {σ : zSt} (h : zKeC σ0 σ) : zpc (fX11_picture_10 σ) (fun r => zKeC σ0 (zRis r)) := by
  unfold fX11_picture_10
  exact zpc_some h
theorem w_fX11_picture {σ0 : zSt} {σ : zSt} {x1 : Int32} (h : zKeC σ0 σ) : zpc (fX11_picture σ x1) (fun r => zKeC σ0 (zRis r)) := by
  unfold fX11_picture
  exact zpc_if (fun _ => w_fX11_picture_10 h) (fun _ => zpc_if (fun _ => zpc_bi (w_fX11_run h) (fun σ1 v2 hσ1 => zpc_some hσ1)) (fun _ => w_fX11_picture_10 h))
theorem w_fX11_press {σ0 : zSt} {σ : zSt} {x1 : Int32} {x2 : Int32} (h : zKeC σ0 σ) : zpc (fX11_press σ x1 x2) (fun r => zKeC σ0 (zRus r)) := by
  unfold fX11_press
  exact zpc_bi (w_fX4_canPress h) (fun σ1 v2 hσ1 => zpc_if (fun _ => zpc_some hσ1) (fun _ => zpc_bu (w_fX4_holdButtons hσ1) (fun σ3 hσ3 => zpc_some hσ3)))
theorem w_fX11_line_9 {σ0 : zSt} {σ : zSt} (h : zKeC σ0 σ) : zpc (fX11_line_9 σ) (fun r => zKeC σ0 (zRus r)) := by
  unfold fX11_line_9
  exact zpc_some h
theorem w_fX11_line {σ0 : zSt} {σ : zSt} {x1 : Int32} {x2 : Int32} (h : zKeC σ0 σ) : zpc (fX11_line σ x1 x2) (fun r => zKeC σ0 (zRus r)) := by
  unfold fX11_line
  exact zpc_if (fun _ => w_fX11_line_9 h) (fun _ => zpc_if (fun _ => zpc_bu (w_fX4_moveLine h) (fun σ1 hσ1 => zpc_some hσ1)) (fun _ => w_fX11_line_9 h))
theorem w_fX11_plan_19 {σ0 : zSt} {σ : zSt} (h : zKeC σ0 σ) : zpc (fX11_plan_19 σ) (fun r => zKeC σ0 (zRis r)) := by
  unfold fX11_plan_19
  exact zpc_some h
theorem w_fX11_plan {σ0 : zSt} {σ : zSt} {x1 : Int32} {x2 : Int32} {x3 : Int32} (h : zKeC σ0 σ) : zpc (fX11_plan σ x1 x2 x3) (fun r => zKeC σ0 (zRis r)) := by
  unfold fX11_plan
  exact zpc_bi (w_fX1_leastPlan h) (fun σ1 v2 hσ1 => zpc_if (fun _ => w_fX11_plan_19 hσ1) (fun _ => zpc_bi (w_fX4_canPress hσ1) (fun σ3 v4 hσ3 => zpc_if (fun _ => w_fX11_plan_19 hσ3) (fun _ => zpc_bi (w_fX1_plansWaiting hσ3) (fun σ5 v6 hσ5 => zpc_if (fun _ => zpc_bi (w_fX1_addPlan hσ5) (fun σ7 v8 hσ7 => zpc_some hσ7)) (fun _ => zpc_some hσ5))))))
theorem w_fX11_text_15 {σ0 : zSt} {σ : zSt} (h : zKeC σ0 σ) : zpc (fX11_text_15 σ) (fun r => zKeC σ0 (zRls r)) := by
  unfold fX11_text_15
  exact zpc_some h
theorem w_fX11_text {σ0 : zSt} {σ : zSt} {x1 : Int32} (h : zKeC σ0 σ) : zpc (fX11_text σ x1) (fun r => zKeC σ0 (zRls r)) := by
  unfold fX11_text
  exact zpc_if (fun _ => w_fX11_text_15 h) (fun _ => zpc_if (fun _ => zpc_bll (w_fX8_eightFrom h) (fun σ1 v2 hσ1 => zpc_some hσ1)) (fun _ => w_fX11_text_15 h))
theorem w_fX11_stop_10 {σ0 : zSt} {σ : zSt} (h : zKeC σ0 σ) : zpc (fX11_stop_10 σ) (fun r => zKeC σ0 (zRis r)) := by
  unfold fX11_stop_10
  exact zpc_some h
theorem w_fX11_stop {σ0 : zSt} {σ : zSt} {x1 : Int32} {x2 : Int32} (h : zKeC σ0 σ) : zpc (fX11_stop σ x1 x2) (fun r => zKeC σ0 (zRis r)) := by
  unfold fX11_stop
  exact zpc_if (fun _ => w_fX11_stop_10 h) (fun _ => zpc_if (fun _ => zpc_bi (w_fX1_stopsBeside h) (fun σ1 v2 hσ1 => zpc_if (fun _ => zpc_bi (w_fX1_changeStop hσ1) (fun σ3 v4 hσ3 => zpc_some hσ3)) (fun _ => zpc_some hσ1))) (fun _ => w_fX11_stop_10 h))
theorem w_fX11_restore {σ0 : zSt} {σ : zSt} (h : zKeC σ0 σ) : zpc (fX11_restore σ) (fun r => zKeC σ0 (zRus r)) := by
  unfold fX11_restore
  exact zpc_if (fun _ => zpc_some h) (fun _ => zpc_bu (w_fX2_bringBack h) (fun σ1 hσ1 => zpc_bu (w_fX9_bringBack hσ1) (fun σ2 hσ2 => zpc_bu (w_fX3_bringBack hσ2) (fun σ3 hσ3 => zpc_bu (w_fX7_bringBack hσ3) (fun σ4 hσ4 => zpc_bu (w_fX10_bringBack hσ4) (fun σ5 hσ5 => zpc_bu (w_fX4_bringBack hσ5) (fun σ6 hσ6 => zpc_bu (w_fX5_bringBack hσ6) (fun σ7 hσ7 => zpc_bu (w_fX0_bringBack hσ7) (fun σ8 hσ8 => zpc_bu (w_fX1_bringBack hσ8) (fun σ9 hσ9 => zpc_some hσ9))))))))))
theorem w_fX11_register_10 {σ0 : zSt} {σ : zSt} (h : zKeC σ0 σ) : zpc (fX11_register_10 σ) (fun r => zKeC σ0 (zRis r)) := by
  unfold fX11_register_10
  exact zpc_some h
theorem w_fX11_register {σ0 : zSt} {σ : zSt} {x1 : Int32} (h : zKeC σ0 σ) : zpc (fX11_register σ x1) (fun r => zKeC σ0 (zRis r)) := by
  unfold fX11_register
  exact zpc_if (fun _ => w_fX11_register_10 h) (fun _ => zpc_if (fun _ => zpc_bi (w_fX5_value h) (fun σ1 v2 hσ1 => zpc_some hσ1)) (fun _ => w_fX11_register_10 h))
theorem w_fX11_set_10 {σ0 : zSt} {σ : zSt} (h : zKeC σ0 σ) : zpc (fX11_set_10 σ) (fun r => zKeC σ0 (zRus r)) := by
  unfold fX11_set_10
  exact zpc_some h
theorem w_fX11_set {σ0 : zSt} {σ : zSt} {x1 : Int32} {x2 : Int32} (h : zKeC σ0 σ) : zpc (fX11_set σ x1 x2) (fun r => zKeC σ0 (zRus r)) := by
  unfold fX11_set
  exact zpc_if (fun _ => w_fX11_set_10 h) (fun _ => zpc_if (fun _ => zpc_bu (w_fX5_change h) (fun σ1 hσ1 => zpc_some hσ1)) (fun _ => w_fX11_set_10 h))
theorem w_fX11_battery_11 {σ0 : zSt} {σ : zSt} (h : zKeC σ0 σ) : zpc (fX11_battery_11 σ) (fun r => zKeC σ0 (zRis r)) := by
  unfold fX11_battery_11
  exact zpc_some h
theorem w_fX11_battery {σ0 : zSt} {σ : zSt} {x1 : Int32} (h : zKeC σ0 σ) : zpc (fX11_battery σ x1) (fun r => zKeC σ0 (zRis r)) := by
  unfold fX11_battery
  exact zpc_if (fun _ => w_fX11_battery_11 h) (fun _ => zpc_if (fun _ => zpc_bi (w_fX2_batteryByte h) (fun σ1 v2 hσ1 => zpc_some hσ1)) (fun _ => w_fX11_battery_11 h))
theorem w_fX11_chip {σ0 : zSt} {σ : zSt} {x1 : Int32} (h : zKeC σ0 σ) : zpc (fX11_chip σ x1) (fun r => zKeC σ0 (zRis r)) := by
  unfold fX11_chip
  exact zpc_bi (w_fX9_has h) (fun σ1 v2 hσ1 => zpc_if (fun _ => zpc_some hσ1) (fun _ => zpc_bi (w_fX9_value hσ1) (fun σ3 v4 hσ3 => zpc_some hσ3)))
theorem w_fX11_dot_30 {σ0 : zSt} {σ : zSt} (h : zKeC σ0 σ) : zpc (fX11_dot_30 σ) (fun r => zKeC σ0 (zRis r)) := by
  unfold fX11_dot_30
  exact zpc_some h
theorem w_fX11_dot {σ0 : zSt} {σ : zSt} {x1 : Int32} {x2 : Int32} (h : zKeC σ0 σ) : zpc (fX11_dot σ x1 x2) (fun r => zKeC σ0 (zRis r)) := by
  unfold fX11_dot
  exact zpc_if (fun _ => w_fX11_dot_30 h) (fun _ => zpc_bi (w_fX3_width h) (fun σ1 v2 hσ1 => zpc_if (fun _ => w_fX11_dot_30 hσ1) (fun _ => zpc_if (fun _ => w_fX11_dot_30 hσ1) (fun _ => zpc_bi (w_fX3_height hσ1) (fun σ3 v4 hσ3 => zpc_if (fun _ => zpc_bi (w_fX3_dotAt hσ3) (fun σ5 v6 hσ5 => zpc_some hσ5)) (fun _ => w_fX11_dot_30 hσ3))))))
theorem w_fX11_row_15 {σ0 : zSt} {σ : zSt} (h : zKeC σ0 σ) : zpc (fX11_row_15 σ) (fun r => zKeC σ0 (zRis r)) := by
  unfold fX11_row_15
  exact zpc_some h
theorem w_fX11_row {σ0 : zSt} {σ : zSt} {x1 : Int32} (h : zKeC σ0 σ) : zpc (fX11_row σ x1) (fun r => zKeC σ0 (zRis r)) := by
  unfold fX11_row
  exact zpc_if (fun _ => w_fX11_row_15 h) (fun _ => zpc_bi (w_fX3_height h) (fun σ1 v2 hσ1 => zpc_if (fun _ => zpc_bi (w_fX3_sumOfLine hσ1) (fun σ3 v4 hσ3 => zpc_some hσ3)) (fun _ => w_fX11_row_15 hσ1)))
theorem w_fX11_hear {σ0 : zSt} {σ : zSt} (h : zKeC σ0 σ) : zpc (fX11_hear σ) (fun r => zKeC σ0 (zRls r)) := by
  unfold fX11_hear
  exact zpc_bi (w_fX6_size_k11 h) (fun σ1 v2 hσ1 => zpc_if (fun _ => zpc_some hσ1) (fun _ => zpc_bll (w_fX6_takeFirst_k11 hσ1) (fun σ3 v4 hσ3 => zpc_some hσ3)))
theorem w_fX11_mix {σ0 : zSt} {σ : zSt} (h : zKeC σ0 σ) : zpc (fX11_mix σ) (fun r => zKeC σ0 (zRls r)) := by
  unfold fX11_mix
  exact zpc_bi (w_fX6_size_k12 h) (fun σ1 v2 hσ1 => zpc_if (fun _ => zpc_some hσ1) (fun _ => zpc_bll (w_fX6_takeFirst_k12 hσ1) (fun σ3 v4 hσ3 => zpc_some hσ3)))
theorem w_fX11_wave {σ0 : zSt} {σ : zSt} {x1 : Int32} (h : zKeC σ0 σ) : zpc (fX11_wave σ x1) (fun r => zKeC σ0 (zRis r)) := by
  unfold fX11_wave
  exact zpc_bi (w_fX10_has h) (fun σ1 v2 hσ1 => zpc_if (fun _ => zpc_some hσ1) (fun _ => zpc_bi (w_fX10_value hσ1) (fun σ3 v4 hσ3 => zpc_some hσ3)))
theorem w_fX11_sound_10 {σ0 : zSt} {σ : zSt} (h : zKeC σ0 σ) : zpc (fX11_sound_10 σ) (fun r => zKeC σ0 (zRis r)) := by
  unfold fX11_sound_10
  exact zpc_some h
theorem w_fX11_sound {σ0 : zSt} {σ : zSt} {x1 : Int32} (h : zKeC σ0 σ) : zpc (fX11_sound σ x1) (fun r => zKeC σ0 (zRis r)) := by
  unfold fX11_sound
  exact zpc_if (fun _ => w_fX11_sound_10 h) (fun _ => zpc_if (fun _ => zpc_bi (w_fX7_value h) (fun σ1 v2 hσ1 => zpc_some hσ1)) (fun _ => w_fX11_sound_10 h))
theorem w_fX11_look_10 {σ0 : zSt} {σ : zSt} (h : zKeC σ0 σ) : zpc (fX11_look_10 σ) (fun r => zKeC σ0 (zRls r)) := by
  unfold fX11_look_10
  exact zpc_some h
theorem w_fX11_look_193 {σ0 : zSt} {σ : zSt} {x1 : Int32} (h : zKeC σ0 σ) : zpc (fX11_look_193 σ x1) (fun r => zKeC σ0 (zRls r)) := by
  unfold fX11_look_193
  exact zpc_bi (w_fX2_page h) (fun σ1 v2 hσ1 => zpc_some hσ1)
theorem w_fX11_look_250 {σ0 : zSt} {σ : zSt} {s0 : Int64} (h : zKeC σ0 σ) : zpc (fX11_look_250 σ s0) (fun r => zKeC σ0 (zRls r)) := by
  unfold fX11_look_250
  exact zpc_some h
theorem w_fX11_look {σ0 : zSt} {σ : zSt} {x1 : Int32} (h : zKeC σ0 σ) : zpc (fX11_look σ x1) (fun r => zKeC σ0 (zRls r)) := by
  unfold fX11_look
  exact zpc_if (fun _ => w_fX11_look_10 h) (fun _ => zpc_if (fun _ => zpc_if (fun _ => zpc_bll (w_fX0_count h) (fun σ3 v4 hσ3 => zpc_some hσ3)) (fun _ => zpc_if (fun _ => zpc_bll (w_fX0_count h) (fun σ5 v6 hσ5 => zpc_some hσ5)) (fun _ => zpc_if (fun _ => zpc_bll (w_fX0_count h) (fun σ7 v8 hσ7 => zpc_some hσ7)) (fun _ => zpc_if (fun _ => zpc_bi (w_fX6_size_k11 h) (fun σ9 v10 hσ9 => zpc_some hσ9)) (fun _ => zpc_if (fun _ => zpc_bll (w_fX0_count h) (fun σ11 v12 hσ11 => zpc_some hσ11)) (fun _ => zpc_if (fun _ => zpc_some h) (fun _ => zpc_if (fun _ => zpc_bi (w_fX1_stopCount h) (fun σ13 v14 hσ13 => zpc_some hσ13)) (fun _ => zpc_if (fun _ => zpc_bi (w_fX2_cardSize h) (fun σ15 v16 hσ15 => zpc_some hσ15)) (fun _ => zpc_if (fun _ => zpc_bi (w_fX2_page h) (fun σ17 v18 hσ17 => zpc_some hσ17)) (fun _ => zpc_if (fun _ => w_fX11_look_193 h) (fun _ => zpc_if (fun _ => w_fX11_look_193 h) (fun _ => zpc_if (fun _ => w_fX11_look_193 h) (fun _ => zpc_if (fun _ => zpc_bi (w_fX5_value h) (fun σ19 v20 hσ19 => zpc_some hσ19)) (fun _ => zpc_if (fun _ => zpc_bi (w_fX4_value h) (fun σ21 v22 hσ21 => zpc_some hσ21)) (fun _ => zpc_if (fun _ => zpc_bi (w_fX4_value h) (fun σ23 v24 hσ23 => zpc_some hσ23)) (fun _ => zpc_if (fun _ => zpc_if (fun _ => w_fX11_look_250 h) (fun _ => w_fX11_look_250 h)) (fun _ => zpc_if (fun _ => zpc_bi (w_fX1_plansWaiting h) (fun σ25 v26 hσ25 => zpc_some hσ25)) (fun _ => zpc_if (fun _ => zpc_bi (w_fX6_size_k12 h) (fun σ27 v28 hσ27 => zpc_some hσ27)) (fun _ => zpc_some h))))))))))))))))))) (fun _ => w_fX11_look_10 h))
end ZJN0
section ZJN1
noncomputable def zKeM (σ0 σ : zSt) : Prop := σ.1 1 = σ0.1 1 ∧ σ.1 2 = σ0.1 2 ∧ ∀ j, j ∈ [2, 5, 6, 7, 8, 9] → σ.1 0 j = σ0.1 0 j
theorem zKeM.wi {σ0 σ : zSt} {k j : Nat} {v : Int32} (h : zKeM σ0 σ) (c : (Nat.beq 0 k || (Nat.beq 1 k || Nat.beq 2 k)) = false) : zKeM σ0 (zsi σ k j v) := by
  obtain ⟨h1, h2, h3⟩ := h
  rw [Bool.or_eq_false_iff, Bool.or_eq_false_iff] at c
  exact ⟨(zsi_ne (fun r => by rw [r, show Nat.beq k k = true from Nat.beq_refl k] at c; exact absurd c.2.1 (by decide))).trans h1, (zsi_ne (fun r => by rw [r, show Nat.beq k k = true from Nat.beq_refl k] at c; exact absurd c.2.2 (by decide))).trans h2, fun i hi => by rw [zsi_ne (fun r => by rw [r, show Nat.beq k k = true from Nat.beq_refl k] at c; exact absurd c.1 (by decide))]; exact h3 i hi⟩
theorem zKeM.w0 {σ0 σ : zSt} {j : Nat} {v : Int32} (h : zKeM σ0 σ) (c : [2, 5, 6, 7, 8, 9].contains j = false) : zKeM σ0 (zsi σ 0 j v) := by
  obtain ⟨h1, h2, h3⟩ := h
  refine ⟨(zsi_ne (by decide)).trans h1, (zsi_ne (by decide)).trans h2, fun i hi => ?_⟩
  rw [zsi_nj (fun r => by rw [← r, List.contains_iff_mem.mpr hi] at c; exact absurd c (by decide))]
  exact h3 i hi
theorem zKeM.wl {σ0 σ : zSt} {k j : Nat} {v : Int64} (h : zKeM σ0 σ) : zKeM σ0 (zsl σ k j v) := h
theorem w_fX12_fails_10 {σ0 : zSt} {σ : zSt} {x1 : Int32} {s0 : Int32} (h : zKeM σ0 σ) : zpc (fX12_fails_10 σ x1 s0) (fun r => zKeM σ0 (r.1)) := by
  unfold fX12_fails_10
  exact zpc_bs (zKeM.w0 h (by decide)) (fun σ1 hσ1 => zpc_ck (zpc_some hσ1))
theorem w_fX12_fails {σ0 : zSt} {σ : zSt} {x1 : Int32} {x2 : Int32} (h : zKeM σ0 σ) : zpc (fX12_fails σ x1 x2) (fun r => zKeM σ0 (r.1)) := by
  unfold fX12_fails
  exact zpc_if (fun _ => w_fX12_fails_10 h) (fun _ => w_fX12_fails_10 h)
theorem w_fX12_within_18 {σ0 : zSt} {σ : zSt} {s0 : Int32} (h : zKeM σ0 σ) : zpc (fX12_within_18 σ s0) (fun r => zKeM σ0 (r.1)) := by
  unfold fX12_within_18
  exact zpc_ck (zpc_some h)
theorem w_fX12_within_17 {σ0 : zSt} {σ : zSt} (h : zKeM σ0 σ) : zpc (fX12_within_17 σ) (fun r => zKeM σ0 (r.1)) := by
  unfold fX12_within_17
  exact w_fX12_within_18 h
theorem w_fX12_within {σ0 : zSt} {σ : zSt} {x0 : Int64} {x2 : Int64} {x4 : Int64} (h : zKeM σ0 σ) : zpc (fX12_within σ x0 x2 x4) (fun r => zKeM σ0 (r.1)) := by
  unfold fX12_within
  exact zpc_if (fun _ => w_fX12_within_17 h) (fun _ => zpc_if (fun _ => w_fX12_within_17 h) (fun _ => w_fX12_within_18 h))
theorem w_fX12_bytesAt_7_body {σ0 : zSt} {k7 : zSt → Int32 → Int32 → Int32 → Option (zSt × Int32)} (hk7 : ∀ (y0 : zSt) (y1 : Int32) (y2 : Int32) (y3 : Int32), zKeM σ0 y0 → zpc (k7 y0 y1 y2 y3) (fun r => zKeM σ0 (r.1))) {σ : zSt} {x1 : Int32} {x3 : Int32} {x4 : Int32} (h : zKeM σ0 σ) : zpc (fX12_bytesAt_7_body k7 σ x1 x3 x4) (fun r => zKeM σ0 (r.1)) := by
  unfold fX12_bytesAt_7_body
  exact zpc_if (fun _ => zpc_some h) (fun _ => zpc_ck (zpc_bv (fun v1 _ => zpc_bv (fun v2 _ => hk7 _ _ _ _ h))))
theorem w_fX12_bytesAt_7 {σ0 : zSt} : ∀ (n : Nat) (y0 : zSt) (y1 : Int32) (y2 : Int32) (y3 : Int32), zKeM σ0 y0 → zpc (fX12_bytesAt_7 n y0 y1 y2 y3) (fun r => zKeM σ0 (r.1)) := by
  intro n
  induction n with
  | zero => intro y0 y1 y2 y3 h; exact zpc_none
  | succ n ih => intro y0 y1 y2 y3 h; exact w_fX12_bytesAt_7_body ih h
theorem w_fX12_bytesAt {σ0 : zSt} {σ : zSt} {x1 : Int32} {x2 : Int32} (h : zKeM σ0 σ) : zpc (fX12_bytesAt σ x1 x2) (fun r => zKeM σ0 (r.1)) := by
  unfold fX12_bytesAt
  exact zpc_bv (fun v3 _ => w_fX12_bytesAt_7 _ _ _ _ _ h)
theorem w_fX12_anew_236 {σ0 : zSt} {k196 : zSt → Int32 → Option (zSt)} (hk196 : ∀ (y0 : zSt) (y1 : Int32), zKeM σ0 y0 → zpc (k196 y0 y1) (fun r => zKeM σ0 (r))) {σ : zSt} {x1 : Int32} {s0 : Int32} {s1 : Int32} (h : zKeM σ0 σ) : zpc (fX12_anew_236 k196 σ x1 s0 s1) (fun r => zKeM σ0 (r)) := by
  unfold fX12_anew_236
  exact zpc_ck (zpc_bs (zKeM.wi h (by decide)) (fun σ1 hσ1 => zpc_bv (fun v2 _ => hk196 _ _ hσ1)))
theorem w_fX12_anew_267_body {σ0 : zSt} {k267 : zSt → Int32 → Option (zSt)} (hk267 : ∀ (y0 : zSt) (y1 : Int32), zKeM σ0 y0 → zpc (k267 y0 y1) (fun r => zKeM σ0 (r))) {σ : zSt} {x1 : Int32} (h : zKeM σ0 σ) : zpc (fX12_anew_267_body k267 σ x1) (fun r => zKeM σ0 (r)) := by
  unfold fX12_anew_267_body
  exact zpc_if (fun _ => zpc_some h) (fun _ => zpc_ck (zpc_bs (zKeM.wi h (by decide)) (fun σ3 hσ3 => zpc_bv (fun v4 _ => hk267 _ _ hσ3))))
theorem w_fX12_anew_267 {σ0 : zSt} : ∀ (n : Nat) (y0 : zSt) (y1 : Int32), zKeM σ0 y0 → zpc (fX12_anew_267 n y0 y1) (fun r => zKeM σ0 (r)) := by
  intro n
  induction n with
  | zero => intro y0 y1 h; exact zpc_none
  | succ n ih => intro y0 y1 h; exact w_fX12_anew_267_body ih h
theorem w_fX12_anew_245_body {σ0 : zSt} {k245 : zSt → Int32 → Option (zSt)} (hk245 : ∀ (y0 : zSt) (y1 : Int32), zKeM σ0 y0 → zpc (k245 y0 y1) (fun r => zKeM σ0 (r))) {σ : zSt} {x1 : Int32} (h : zKeM σ0 σ) : zpc (fX12_anew_245_body k245 σ x1) (fun r => zKeM σ0 (r)) := by
  unfold fX12_anew_245_body
  exact zpc_if (fun _ => w_fX12_anew_267 _ _ _ h) (fun _ => zpc_ck (zpc_bs (zKeM.wi h (by decide)) (fun σ5 hσ5 => zpc_bv (fun v6 _ => hk245 _ _ hσ5))))
theorem w_fX12_anew_245 {σ0 : zSt} : ∀ (n : Nat) (y0 : zSt) (y1 : Int32), zKeM σ0 y0 → zpc (fX12_anew_245 n y0 y1) (fun r => zKeM σ0 (r)) := by
  intro n
  induction n with
  | zero => intro y0 y1 h; exact zpc_none
  | succ n ih => intro y0 y1 h; exact w_fX12_anew_245_body ih h
theorem w_fX12_anew_196_body {σ0 : zSt} {k196 : zSt → Int32 → Option (zSt)} (hk196 : ∀ (y0 : zSt) (y1 : Int32), zKeM σ0 y0 → zpc (k196 y0 y1) (fun r => zKeM σ0 (r))) {σ : zSt} {x1 : Int32} (h : zKeM σ0 σ) : zpc (fX12_anew_196_body k196 σ x1) (fun r => zKeM σ0 (r)) := by
  unfold fX12_anew_196_body
  exact zpc_if (fun _ => w_fX12_anew_245 _ _ _ h) (fun _ => zpc_ck (zpc_if (fun _ => w_fX12_anew_236 hk196 h) (fun _ => zpc_ck (zpc_if (fun _ => w_fX12_anew_236 hk196 h) (fun _ => w_fX12_anew_236 hk196 h)))))
theorem w_fX12_anew_196 {σ0 : zSt} : ∀ (n : Nat) (y0 : zSt) (y1 : Int32), zKeM σ0 y0 → zpc (fX12_anew_196 n y0 y1) (fun r => zKeM σ0 (r)) := by
  intro n
  induction n with
  | zero => intro y0 y1 h; exact zpc_none
  | succ n ih => intro y0 y1 h; exact w_fX12_anew_196_body ih h
theorem w_fX12_anew_165_body {σ0 : zSt} {k165 : zSt → Int32 → Option (zSt)} (hk165 : ∀ (y0 : zSt) (y1 : Int32), zKeM σ0 y0 → zpc (k165 y0 y1) (fun r => zKeM σ0 (r))) {σ : zSt} {x1 : Int32} (h : zKeM σ0 σ) : zpc (fX12_anew_165_body k165 σ x1) (fun r => zKeM σ0 (r)) := by
  unfold fX12_anew_165_body
  exact zpc_if (fun _ => zpc_ck (zpc_bs (zKeM.wi h (by decide)) (fun σ7 hσ7 => w_fX12_anew_196 _ _ _ hσ7))) (fun _ => zpc_ck (zpc_bs (zKeM.wi h (by decide)) (fun σ8 hσ8 => zpc_bv (fun v9 _ => hk165 _ _ hσ8))))
theorem w_fX12_anew_165 {σ0 : zSt} : ∀ (n : Nat) (y0 : zSt) (y1 : Int32), zKeM σ0 y0 → zpc (fX12_anew_165 n y0 y1) (fun r => zKeM σ0 (r)) := by
  intro n
  induction n with
  | zero => intro y0 y1 h; exact zpc_none
  | succ n ih => intro y0 y1 h; exact w_fX12_anew_165_body ih h
theorem w_fX12_anew_131_body {σ0 : zSt} {k131 : zSt → Int32 → Option (zSt)} (hk131 : ∀ (y0 : zSt) (y1 : Int32), zKeM σ0 y0 → zpc (k131 y0 y1) (fun r => zKeM σ0 (r))) {σ : zSt} {x1 : Int32} (h : zKeM σ0 σ) : zpc (fX12_anew_131_body k131 σ x1) (fun r => zKeM σ0 (r)) := by
  unfold fX12_anew_131_body
  exact zpc_if (fun _ => zpc_ck (zpc_bs (zKeM.wi h (by decide)) (fun σ10 hσ10 => w_fX12_anew_165 _ _ _ hσ10))) (fun _ => zpc_ck (zpc_bs (zKeM.wi h (by decide)) (fun σ11 hσ11 => zpc_bv (fun v12 _ => hk131 _ _ hσ11))))
theorem w_fX12_anew_131 {σ0 : zSt} : ∀ (n : Nat) (y0 : zSt) (y1 : Int32), zKeM σ0 y0 → zpc (fX12_anew_131 n y0 y1) (fun r => zKeM σ0 (r)) := by
  intro n
  induction n with
  | zero => intro y0 y1 h; exact zpc_none
  | succ n ih => intro y0 y1 h; exact w_fX12_anew_131_body ih h
theorem w_fX12_anew_79 {σ0 : zSt} {σ : zSt} {s0 : Int32} {s1 : Int32} (h : zKeM σ0 σ) : zpc (fX12_anew_79 σ s0 s1) (fun r => zKeM σ0 (r)) := by
  unfold fX12_anew_79
  exact zpc_ck (zpc_bs (zKeM.wi h (by decide)) (fun σ13 hσ13 => zpc_ck (zpc_bs (zKeM.wi hσ13 (by decide)) (fun σ14 hσ14 => zpc_ck (zpc_bs (zKeM.wi hσ14 (by decide)) (fun σ15 hσ15 => zpc_ck (zpc_bs (zKeM.wi hσ15 (by decide)) (fun σ16 hσ16 => zpc_ck (zpc_bs (zKeM.wi hσ16 (by decide)) (fun σ17 hσ17 => zpc_ck (zpc_bs (zKeM.wi hσ17 (by decide)) (fun σ18 hσ18 => w_fX12_anew_131 _ _ _ hσ18))))))))))))
theorem w_fX12_anew_24_body {σ0 : zSt} {k24 : zSt → Int32 → Option (zSt)} (hk24 : ∀ (y0 : zSt) (y1 : Int32), zKeM σ0 y0 → zpc (k24 y0 y1) (fun r => zKeM σ0 (r))) {σ : zSt} {x1 : Int32} (h : zKeM σ0 σ) : zpc (fX12_anew_24_body k24 σ x1) (fun r => zKeM σ0 (r)) := by
  unfold fX12_anew_24_body
  exact zpc_if (fun _ => zpc_ck (zpc_bs (zKeM.wi h (by decide)) (fun σ19 hσ19 => zpc_ck (zpc_bs (zKeM.wi hσ19 (by decide)) (fun σ20 hσ20 => zpc_if (fun _ => w_fX12_anew_79 hσ20) (fun _ => w_fX12_anew_79 hσ20)))))) (fun _ => zpc_ck (zpc_bs (zKeM.wi h (by decide)) (fun σ21 hσ21 => zpc_bv (fun v22 _ => hk24 _ _ hσ21))))
theorem w_fX12_anew_24 {σ0 : zSt} : ∀ (n : Nat) (y0 : zSt) (y1 : Int32), zKeM σ0 y0 → zpc (fX12_anew_24 n y0 y1) (fun r => zKeM σ0 (r)) := by
  intro n
  induction n with
  | zero => intro y0 y1 h; exact zpc_none
  | succ n ih => intro y0 y1 h; exact w_fX12_anew_24_body ih h
theorem w_fX12_anew_2_body {σ0 : zSt} {k2 : zSt → Int32 → Option (zSt)} (hk2 : ∀ (y0 : zSt) (y1 : Int32), zKeM σ0 y0 → zpc (k2 y0 y1) (fun r => zKeM σ0 (r))) {σ : zSt} {x1 : Int32} (h : zKeM σ0 σ) : zpc (fX12_anew_2_body k2 σ x1) (fun r => zKeM σ0 (r)) := by
  unfold fX12_anew_2_body
  exact zpc_if (fun _ => w_fX12_anew_24 _ _ _ h) (fun _ => zpc_ck (zpc_bs (zKeM.wi h (by decide)) (fun σ23 hσ23 => zpc_bv (fun v24 _ => hk2 _ _ hσ23))))
theorem w_fX12_anew_2 {σ0 : zSt} : ∀ (n : Nat) (y0 : zSt) (y1 : Int32), zKeM σ0 y0 → zpc (fX12_anew_2 n y0 y1) (fun r => zKeM σ0 (r)) := by
  intro n
  induction n with
  | zero => intro y0 y1 h; exact zpc_none
  | succ n ih => intro y0 y1 h; exact w_fX12_anew_2_body ih h
theorem w_fX12_anew {σ0 : zSt} {σ : zSt} (h : zKeM σ0 σ) : zpc (fX12_anew σ) (fun r => zKeM σ0 (r)) := by
  unfold fX12_anew
  exact w_fX12_anew_2 _ _ _ h
theorem w_fX12_load_414_body {σ0 : zSt} {k414 : zSt → Int32 → Option (zSt × Int32)} (hk414 : ∀ (y0 : zSt) (y1 : Int32), zKeM σ0 y0 → zpc (k414 y0 y1) (fun r => zKeM σ0 (r.1))) {σ : zSt} {x6 : Int32} (h : zKeM σ0 σ) : zpc (fX12_load_414_body k414 σ x6) (fun r => zKeM σ0 (r.1)) := by
  unfold fX12_load_414_body
  exact zpc_if (fun _ => zpc_ck (zpc_bs (zKeM.w0 h (by decide)) (fun σ4 hσ4 => zpc_some hσ4))) (fun _ => zpc_ck (zpc_bs (zKeM.wi h (by decide)) (fun σ5 hσ5 => zpc_bv (fun v6 _ => hk414 _ _ hσ5))))
theorem w_fX12_load_414 {σ0 : zSt} : ∀ (n : Nat) (y0 : zSt) (y1 : Int32), zKeM σ0 y0 → zpc (fX12_load_414 n y0 y1) (fun r => zKeM σ0 (r.1)) := by
  intro n
  induction n with
  | zero => intro y0 y1 h; exact zpc_none
  | succ n ih => intro y0 y1 h; exact w_fX12_load_414_body ih h
theorem w_fX12_tens {σ0 : zSt} {σ : zSt} {x1 : Int32} (h : zKeM σ0 σ) : zpc (fX12_tens σ x1) (fun r => zKeM σ0 (r.1)) := by
  unfold fX12_tens
  exact zpc_ck (zpc_ck (zpc_some h))
theorem w_fX12_card_59 {σ0 : zSt} {σ : zSt} {s0 : Int32} (h : zKeM σ0 σ) : zpc (fX12_card_59 σ s0) (fun r => zKeM σ0 (r.1)) := by
  unfold fX12_card_59
  exact zpc_some h
theorem w_fX12_card_18 {σ0 : zSt} {σ : zSt} {x1 : Int32} {s0 : Int32} (h : zKeM σ0 σ) : zpc (fX12_card_18 σ x1 s0) (fun r => zKeM σ0 (r.1)) := by
  unfold fX12_card_18
  exact zpc_bi (w_fX12_fails h) (fun σ1 v2 hσ1 => zpc_if (fun _ => zpc_if (fun _ => zpc_if (fun _ => zpc_if (fun _ => zpc_bi (w_fX12_tens hσ1) (fun σ3 v4 hσ3 => zpc_bi (w_fX12_tens hσ3) (fun σ5 v6 hσ5 => zpc_ck (zpc_some hσ5)))) (fun _ => zpc_if (fun _ => zpc_ck (zpc_some hσ1)) (fun _ => zpc_if (fun _ => zpc_ck (zpc_some hσ1)) (fun _ => zpc_if (fun _ => zpc_bi (w_fX12_bytesAt hσ1) (fun σ7 v8 hσ7 => zpc_some hσ7)) (fun _ => zpc_some hσ1))))) (fun _ => zpc_some hσ1)) (fun _ => zpc_if (fun _ => w_fX12_card_59 hσ1) (fun _ => zpc_if (fun _ => w_fX12_card_59 hσ1) (fun _ => w_fX12_card_59 hσ1)))) (fun _ => zpc_some hσ1))
theorem w_fX12_card {σ0 : zSt} {σ : zSt} {x1 : Int32} (h : zKeM σ0 σ) : zpc (fX12_card σ x1) (fun r => zKeM σ0 (r.1)) := by
  unfold fX12_card
  exact zpc_bi (w_fX12_within h) (fun σ9 v10 hσ9 => zpc_if (fun _ => w_fX12_card_18 hσ9) (fun _ => w_fX12_card_18 hσ9))
theorem w_fX12_ofBank {σ0 : zSt} {σ : zSt} {x1 : Int32} {x2 : Int32} (h : zKeM σ0 σ) : zpc (fX12_ofBank σ x1 x2) (fun r => zKeM σ0 (r.1)) := by
  unfold fX12_ofBank
  exact zpc_ck (zpc_ck (zpc_ck (zpc_some h)))
theorem w_fX12_isBattery_38 {σ0 : zSt} {σ : zSt} {s0 : Int32} (h : zKeM σ0 σ) : zpc (fX12_isBattery_38 σ s0) (fun r => zKeM σ0 (r.1)) := by
  unfold fX12_isBattery_38
  exact zpc_ck (zpc_some h)
theorem w_fX12_isBattery_37 {σ0 : zSt} {σ : zSt} (h : zKeM σ0 σ) : zpc (fX12_isBattery_37 σ) (fun r => zKeM σ0 (r.1)) := by
  unfold fX12_isBattery_37
  exact w_fX12_isBattery_38 h
theorem w_fX12_isBattery {σ0 : zSt} {σ : zSt} {x1 : Int32} (h : zKeM σ0 σ) : zpc (fX12_isBattery σ x1) (fun r => zKeM σ0 (r.1)) := by
  unfold fX12_isBattery
  exact zpc_if (fun _ => zpc_ck (zpc_if (fun _ => w_fX12_isBattery_37 h) (fun _ => zpc_if (fun _ => w_fX12_isBattery_37 h) (fun _ => zpc_if (fun _ => w_fX12_isBattery_37 h) (fun _ => w_fX12_isBattery_38 h))))) (fun _ => w_fX12_isBattery_37 h)
theorem w_fX12_batteryAt_23 {σ0 : zSt} {σ : zSt} {s0 : Int32} {s1 : Int32} (h : zKeM σ0 σ) : zpc (fX12_batteryAt_23 σ s0 s1) (fun r => zKeM σ0 (r.1)) := by
  unfold fX12_batteryAt_23
  exact zpc_some h
theorem w_fX12_batteryAt {σ0 : zSt} {σ : zSt} {x1 : Int32} (h : zKeM σ0 σ) : zpc (fX12_batteryAt σ x1) (fun r => zKeM σ0 (r.1)) := by
  unfold fX12_batteryAt
  exact zpc_ck (zpc_if (fun _ => w_fX12_batteryAt_23 h) (fun _ => w_fX12_batteryAt_23 h))
theorem w_fX12_read_80 {σ0 : zSt} {σ : zSt} {s0 : Int32} (h : zKeM σ0 σ) : zpc (fX12_read_80 σ s0) (fun r => zKeM σ0 (r.1)) := by
  unfold fX12_read_80
  exact zpc_some h
theorem w_fX12_read_111 {σ0 : zSt} {σ : zSt} {x2 : Int32} {s0 : Int32} (h : zKeM σ0 σ) : zpc (fX12_read_111 σ x2 s0) (fun r => zKeM σ0 (r.1)) := by
  unfold fX12_read_111
  exact zpc_bi (w_fX12_ofBank h) (fun σ1 v2 hσ1 => zpc_some hσ1)
theorem w_fX12_read_138 {σ0 : zSt} {σ : zSt} {x2 : Int32} (h : zKeM σ0 σ) : zpc (fX12_read_138 σ x2) (fun r => zKeM σ0 (r.1)) := by
  unfold fX12_read_138
  exact zpc_ck (zpc_ck (zpc_bi (w_fX12_ofBank h) (fun σ3 v4 hσ3 => zpc_some hσ3)))
theorem w_fX12_read {σ0 : zSt} {σ : zSt} {x1 : Int32} (h : zKeM σ0 σ) : zpc (fX12_read σ x1) (fun r => zKeM σ0 (r.1)) := by
  unfold fX12_read
  exact zpc_bv (fun v5 _ => zpc_if (fun _ => zpc_bi (w_fX12_isBattery h) (fun σ6 v7 hσ6 => zpc_if (fun _ => zpc_if (fun _ => zpc_if (fun _ => w_fX12_read_80 hσ6) (fun _ => zpc_ck (w_fX12_read_80 hσ6))) (fun _ => zpc_if (fun _ => zpc_if (fun _ => zpc_ck (w_fX12_read_111 hσ6)) (fun _ => zpc_ck (w_fX12_read_111 hσ6))) (fun _ => zpc_if (fun _ => zpc_if (fun _ => w_fX12_read_138 hσ6) (fun _ => zpc_bi (w_fX12_ofBank hσ6) (fun σ8 v9 hσ8 => zpc_some hσ8))) (fun _ => w_fX12_read_138 hσ6)))) (fun _ => zpc_bi (w_fX12_batteryAt hσ6) (fun σ10 v11 hσ10 => zpc_ck (zpc_some hσ10))))) (fun _ => zpc_ck (zpc_ck (zpc_some h))))
theorem w_fX12_write_163 {σ0 : zSt} {σ : zSt} (h : zKeM σ0 σ) : zpc (fX12_write_163 σ) (fun r => zKeM σ0 (r)) := by
  unfold fX12_write_163
  exact zpc_some h
theorem w_fX12_write_140 {σ0 : zSt} {σ : zSt} {x3 : Int32} {x4 : Int32} (h : zKeM σ0 σ) : zpc (fX12_write_140 σ x3 x4) (fun r => zKeM σ0 (r)) := by
  unfold fX12_write_140
  exact zpc_if (fun _ => zpc_if (fun _ => zpc_ck (zpc_bs (zKeM.wi h (by decide)) (fun σ1 hσ1 => w_fX12_write_163 hσ1))) (fun _ => w_fX12_write_163 h)) (fun _ => w_fX12_write_163 h)
theorem w_fX12_write_103 {σ0 : zSt} {σ : zSt} {x3 : Int32} {x4 : Int32} (h : zKeM σ0 σ) : zpc (fX12_write_103 σ x3 x4) (fun r => zKeM σ0 (r)) := by
  unfold fX12_write_103
  exact zpc_if (fun _ => zpc_if (fun _ => w_fX12_write_140 h) (fun _ => zpc_ck (zpc_if (fun _ => zpc_ck (zpc_ck (zpc_bs (zKeM.wi h (by decide)) (fun σ2 hσ2 => w_fX12_write_140 hσ2)))) (fun _ => w_fX12_write_140 h)))) (fun _ => w_fX12_write_140 h)
theorem w_fX12_write_75 {σ0 : zSt} {σ : zSt} {x3 : Int32} {x4 : Int32} (h : zKeM σ0 σ) : zpc (fX12_write_75 σ x3 x4) (fun r => zKeM σ0 (r)) := by
  unfold fX12_write_75
  exact zpc_if (fun _ => zpc_if (fun _ => w_fX12_write_103 h) (fun _ => zpc_ck (zpc_bs (zKeM.wi h (by decide)) (fun σ3 hσ3 => w_fX12_write_103 hσ3)))) (fun _ => w_fX12_write_103 h)
theorem w_fX12_write_52 {σ0 : zSt} {σ : zSt} {x3 : Int32} {x4 : Int32} (h : zKeM σ0 σ) : zpc (fX12_write_52 σ x3 x4) (fun r => zKeM σ0 (r)) := by
  unfold fX12_write_52
  exact zpc_if (fun _ => zpc_if (fun _ => zpc_ck (zpc_bs (zKeM.wi h (by decide)) (fun σ4 hσ4 => w_fX12_write_75 hσ4))) (fun _ => w_fX12_write_75 h)) (fun _ => w_fX12_write_75 h)
theorem w_fX12_write_31 {σ0 : zSt} {σ : zSt} {x3 : Int32} {x4 : Int32} (h : zKeM σ0 σ) : zpc (fX12_write_31 σ x3 x4) (fun r => zKeM σ0 (r)) := by
  unfold fX12_write_31
  exact zpc_bi (w_fX12_isBattery h) (fun σ5 v6 hσ5 => zpc_if (fun _ => w_fX12_write_52 hσ5) (fun _ => zpc_bi (w_fX12_batteryAt hσ5) (fun σ7 v8 hσ7 => zpc_ck (zpc_bs (zKeM.wi hσ7 (by decide)) (fun σ9 hσ9 => w_fX12_write_52 hσ9)))))
theorem w_fX12_write {σ0 : zSt} {σ : zSt} {x1 : Int32} {x2 : Int32} (h : zKeM σ0 σ) : zpc (fX12_write σ x1 x2) (fun r => zKeM σ0 (r)) := by
  unfold fX12_write
  exact zpc_bv (fun v10 _ => zpc_bv (fun v11 _ => zpc_if (fun _ => w_fX12_write_31 h) (fun _ => zpc_ck (zpc_ck (zpc_bs (zKeM.wi h (by decide)) (fun σ12 hσ12 => w_fX12_write_31 hσ12))))))
theorem w_fX12_word {σ0 : zSt} {σ : zSt} {x1 : Int32} (h : zKeM σ0 σ) : zpc (fX12_word σ x1) (fun r => zKeM σ0 (r.1)) := by
  unfold fX12_word
  exact zpc_bi (w_fX12_read h) (fun σ1 v2 hσ1 => zpc_bi (w_fX12_read hσ1) (fun σ3 v4 hσ3 => zpc_some hσ3))
theorem w_fX12_wordTo {σ0 : zSt} {σ : zSt} {x1 : Int32} {x2 : Int32} (h : zKeM σ0 σ) : zpc (fX12_wordTo σ x1 x2) (fun r => zKeM σ0 (r)) := by
  unfold fX12_wordTo
  exact zpc_bu (w_fX12_write h) (fun σ1 hσ1 => zpc_bu (w_fX12_write hσ1) (fun σ2 hσ2 => zpc_some hσ2))
theorem w_fX12_pair {σ0 : zSt} {σ : zSt} {x1 : Int32} (h : zKeM σ0 σ) : zpc (fX12_pair σ x1) (fun r => zKeM σ0 (r.1)) := by
  unfold fX12_pair
  exact zpc_ck (zpc_ck (zpc_some h))
theorem w_fX12_pairTo {σ0 : zSt} {σ : zSt} {x1 : Int32} {x2 : Int32} (h : zKeM σ0 σ) : zpc (fX12_pairTo σ x1 x2) (fun r => zKeM σ0 (r)) := by
  unfold fX12_pairTo
  exact zpc_ck (zpc_bs (zKeM.wi h (by decide)) (fun σ1 hσ1 => zpc_ck (zpc_bs (zKeM.wi hσ1 (by decide)) (fun σ2 hσ2 => zpc_some hσ2))))
theorem w_fX12_hl_25 {σ0 : zSt} {σ : zSt} {s0 : Int32} (h : zKeM σ0 σ) : zpc (fX12_hl_25 σ s0) (fun r => zKeM σ0 (r.1)) := by
  unfold fX12_hl_25
  exact zpc_some h
theorem w_fX12_hl {σ0 : zSt} {σ : zSt} (h : zKeM σ0 σ) : zpc (fX12_hl σ) (fun r => zKeM σ0 (r.1)) := by
  unfold fX12_hl
  exact zpc_if (fun _ => zpc_bi (w_fX12_pair h) (fun σ1 v2 hσ1 => w_fX12_hl_25 hσ1)) (fun _ => zpc_ck (w_fX12_hl_25 h))
theorem w_fX12_hlTo_30 {σ0 : zSt} {σ : zSt} (h : zKeM σ0 σ) : zpc (fX12_hlTo_30 σ) (fun r => zKeM σ0 (r)) := by
  unfold fX12_hlTo_30
  exact zpc_some h
theorem w_fX12_hlTo {σ0 : zSt} {σ : zSt} {x1 : Int32} (h : zKeM σ0 σ) : zpc (fX12_hlTo σ x1) (fun r => zKeM σ0 (r)) := by
  unfold fX12_hlTo
  exact zpc_if (fun _ => zpc_bu (w_fX12_pairTo h) (fun σ2 hσ2 => w_fX12_hlTo_30 hσ2)) (fun _ => zpc_ck (zpc_bs (zKeM.wi h (by decide)) (fun σ1 hσ1 => w_fX12_hlTo_30 hσ1)))
theorem w_fX12_rp_44 {σ0 : zSt} {σ : zSt} {s0 : Int32} (h : zKeM σ0 σ) : zpc (fX12_rp_44 σ s0) (fun r => zKeM σ0 (r.1)) := by
  unfold fX12_rp_44
  exact zpc_some h
theorem w_fX12_rp {σ0 : zSt} {σ : zSt} {x1 : Int32} (h : zKeM σ0 σ) : zpc (fX12_rp σ x1) (fun r => zKeM σ0 (r.1)) := by
  unfold fX12_rp
  exact zpc_if (fun _ => zpc_bi (w_fX12_pair h) (fun σ5 v6 hσ5 => w_fX12_rp_44 hσ5)) (fun _ => zpc_if (fun _ => zpc_bi (w_fX12_pair h) (fun σ3 v4 hσ3 => w_fX12_rp_44 hσ3)) (fun _ => zpc_if (fun _ => zpc_bi (w_fX12_hl h) (fun σ1 v2 hσ1 => w_fX12_rp_44 hσ1)) (fun _ => zpc_ck (w_fX12_rp_44 h))))
theorem w_fX12_rpTo_51 {σ0 : zSt} {σ : zSt} (h : zKeM σ0 σ) : zpc (fX12_rpTo_51 σ) (fun r => zKeM σ0 (r)) := by
  unfold fX12_rpTo_51
  exact zpc_some h
theorem w_fX12_rpTo {σ0 : zSt} {σ : zSt} {x1 : Int32} {x2 : Int32} (h : zKeM σ0 σ) : zpc (fX12_rpTo σ x1 x2) (fun r => zKeM σ0 (r)) := by
  unfold fX12_rpTo
  exact zpc_if (fun _ => zpc_bu (w_fX12_pairTo h) (fun σ4 hσ4 => w_fX12_rpTo_51 hσ4)) (fun _ => zpc_if (fun _ => zpc_bu (w_fX12_pairTo h) (fun σ3 hσ3 => w_fX12_rpTo_51 hσ3)) (fun _ => zpc_if (fun _ => zpc_bu (w_fX12_hlTo h) (fun σ2 hσ2 => w_fX12_rpTo_51 hσ2)) (fun _ => zpc_ck (zpc_bs (zKeM.wi h (by decide)) (fun σ1 hσ1 => w_fX12_rpTo_51 hσ1)))))
theorem w_fX12_m_23 {σ0 : zSt} {σ : zSt} {s0 : Int32} (h : zKeM σ0 σ) : zpc (fX12_m_23 σ s0) (fun r => zKeM σ0 (r.1)) := by
  unfold fX12_m_23
  exact zpc_some h
theorem w_fX12_m {σ0 : zSt} {σ : zSt} (h : zKeM σ0 σ) : zpc (fX12_m σ) (fun r => zKeM σ0 (r.1)) := by
  unfold fX12_m
  exact zpc_if (fun _ => zpc_bi (w_fX12_pair h) (fun σ1 v2 hσ1 => w_fX12_m_23 hσ1)) (fun _ => zpc_ck (w_fX12_m_23 h))
theorem w_fX12_r_74 {σ0 : zSt} {σ : zSt} {x1 : Int32} (h : zKeM σ0 σ) : zpc (fX12_r_74 σ x1) (fun r => zKeM σ0 (r.1)) := by
  unfold fX12_r_74
  exact zpc_ck (zpc_some h)
theorem w_fX12_r_73 {σ0 : zSt} {σ : zSt} {s0 : Int32} (h : zKeM σ0 σ) : zpc (fX12_r_73 σ s0) (fun r => zKeM σ0 (r.1)) := by
  unfold fX12_r_73
  exact zpc_some h
theorem w_fX12_r {σ0 : zSt} {σ : zSt} {x1 : Int32} (h : zKeM σ0 σ) : zpc (fX12_r σ x1) (fun r => zKeM σ0 (r.1)) := by
  unfold fX12_r
  exact zpc_if (fun _ => zpc_bi (w_fX12_m h) (fun σ1 v2 hσ1 => zpc_bi (w_fX12_read hσ1) (fun σ3 v4 hσ3 => zpc_some hσ3))) (fun _ => zpc_if (fun _ => zpc_ck (zpc_some h)) (fun _ => zpc_if (fun _ => w_fX12_r_74 h) (fun _ => zpc_if (fun _ => w_fX12_r_74 h) (fun _ => zpc_if (fun _ => zpc_ck (w_fX12_r_73 h)) (fun _ => zpc_ck (w_fX12_r_73 h))))))
theorem w_fX12_rTo_113 {σ0 : zSt} {σ : zSt} (h : zKeM σ0 σ) : zpc (fX12_rTo_113 σ) (fun r => zKeM σ0 (r)) := by
  unfold fX12_rTo_113
  exact zpc_some h
theorem w_fX12_rTo_104 {σ0 : zSt} {σ : zSt} {x1 : Int32} {x3 : Int32} (h : zKeM σ0 σ) : zpc (fX12_rTo_104 σ x1 x3) (fun r => zKeM σ0 (r)) := by
  unfold fX12_rTo_104
  exact zpc_ck (zpc_bs (zKeM.wi h (by decide)) (fun σ1 hσ1 => w_fX12_rTo_113 hσ1))
theorem w_fX12_rTo_100 {σ0 : zSt} {σ : zSt} {s0 : Int32} {s1 : Int32} (h : zKeM σ0 σ) : zpc (fX12_rTo_100 σ s0 s1) (fun r => zKeM σ0 (r)) := by
  unfold fX12_rTo_100
  exact zpc_ck (zpc_bs (zKeM.wi h (by decide)) (fun σ2 hσ2 => w_fX12_rTo_113 hσ2))
theorem w_fX12_rTo {σ0 : zSt} {σ : zSt} {x1 : Int32} {x2 : Int32} (h : zKeM σ0 σ) : zpc (fX12_rTo σ x1 x2) (fun r => zKeM σ0 (r)) := by
  unfold fX12_rTo
  exact zpc_bv (fun v3 _ => zpc_if (fun _ => zpc_bi (w_fX12_m h) (fun σ5 v6 hσ5 => zpc_bu (w_fX12_write hσ5) (fun σ7 hσ7 => w_fX12_rTo_113 hσ7))) (fun _ => zpc_if (fun _ => zpc_ck (zpc_bs (zKeM.wi h (by decide)) (fun σ4 hσ4 => w_fX12_rTo_113 hσ4))) (fun _ => zpc_if (fun _ => w_fX12_rTo_104 h) (fun _ => zpc_if (fun _ => w_fX12_rTo_104 h) (fun _ => zpc_if (fun _ => zpc_ck (w_fX12_rTo_100 h)) (fun _ => zpc_ck (w_fX12_rTo_100 h)))))))
theorem w_fX12_put_34 {σ0 : zSt} {σ : zSt} {s0 : Int32} {s1 : Int32} (h : zKeM σ0 σ) : zpc (fX12_put_34 σ s0 s1) (fun r => zKeM σ0 (r)) := by
  unfold fX12_put_34
  exact zpc_ck (zpc_bs (zKeM.wi h (by decide)) (fun σ1 hσ1 => zpc_some hσ1))
theorem w_fX12_put {σ0 : zSt} {σ : zSt} {x1 : Int32} {x2 : Int32} (h : zKeM σ0 σ) : zpc (fX12_put σ x1 x2) (fun r => zKeM σ0 (r)) := by
  unfold fX12_put
  exact zpc_if (fun _ => zpc_ck (w_fX12_put_34 h)) (fun _ => zpc_ck (w_fX12_put_34 h))
theorem w_fX12_flag {σ0 : zSt} {σ : zSt} {x1 : Int32} (h : zKeM σ0 σ) : zpc (fX12_flag σ x1) (fun r => zKeM σ0 (r.1)) := by
  unfold fX12_flag
  exact zpc_ck (zpc_some h)
theorem w_fX12_xy_31 {σ0 : zSt} {σ : zSt} {s0 : Int32} {s1 : Int32} (h : zKeM σ0 σ) : zpc (fX12_xy_31 σ s0 s1) (fun r => zKeM σ0 (r)) := by
  unfold fX12_xy_31
  exact zpc_bu (w_fX12_put h) (fun σ1 hσ1 => zpc_some hσ1)
theorem w_fX12_xy_14 {σ0 : zSt} {σ : zSt} {x1 : Int32} {s0 : Int32} {s1 : Int32} (h : zKeM σ0 σ) : zpc (fX12_xy_14 σ x1 s0 s1) (fun r => zKeM σ0 (r)) := by
  unfold fX12_xy_14
  exact zpc_bu (w_fX12_put h) (fun σ2 hσ2 => zpc_if (fun _ => w_fX12_xy_31 hσ2) (fun _ => w_fX12_xy_31 hσ2))
theorem w_fX12_xy {σ0 : zSt} {σ : zSt} {x1 : Int32} (h : zKeM σ0 σ) : zpc (fX12_xy σ x1) (fun r => zKeM σ0 (r)) := by
  unfold fX12_xy
  exact zpc_if (fun _ => w_fX12_xy_14 h) (fun _ => w_fX12_xy_14 h)
theorem w_fX12_by_31 {σ0 : zSt} {σ : zSt} {x1 : Int32} {s0 : Int32} {s1 : Int32} (h : zKeM σ0 σ) : zpc (fX12_by_31 σ x1 s0 s1) (fun r => zKeM σ0 (r)) := by
  unfold fX12_by_31
  exact zpc_bu (w_fX12_put h) (fun σ1 hσ1 => zpc_bu (w_fX12_xy hσ1) (fun σ2 hσ2 => zpc_some hσ2))
theorem w_fX12_by_16 {σ0 : zSt} {σ : zSt} {x1 : Int32} {s0 : Int32} {s1 : Int32} (h : zKeM σ0 σ) : zpc (fX12_by_16 σ x1 s0 s1) (fun r => zKeM σ0 (r)) := by
  unfold fX12_by_16
  exact zpc_bu (w_fX12_put h) (fun σ3 hσ3 => zpc_if (fun _ => w_fX12_by_31 hσ3) (fun _ => w_fX12_by_31 hσ3))
theorem w_fX12_by {σ0 : zSt} {σ : zSt} {x1 : Int32} (h : zKeM σ0 σ) : zpc (fX12_by σ x1) (fun r => zKeM σ0 (r)) := by
  unfold fX12_by
  exact zpc_if (fun _ => w_fX12_by_16 h) (fun _ => w_fX12_by_16 h)
theorem w_fX12_isEven_35 {σ0 : zSt} {σ : zSt} {s0 : Int32} (h : zKeM σ0 σ) : zpc (fX12_isEven_35 σ s0) (fun r => zKeM σ0 (r.1)) := by
  unfold fX12_isEven_35
  exact zpc_ck (zpc_some h)
theorem w_fX12_isEven_4_body {σ0 : zSt} {k4 : zSt → Int32 → Int32 → Int32 → Option (zSt × Int32)} (hk4 : ∀ (y0 : zSt) (y1 : Int32) (y2 : Int32) (y3 : Int32), zKeM σ0 y0 → zpc (k4 y0 y1 y2 y3) (fun r => zKeM σ0 (r.1))) {σ : zSt} {x0 : Int32} {x1 : Int32} {x2 : Int32} (h : zKeM σ0 σ) : zpc (fX12_isEven_4_body k4 σ x0 x1 x2) (fun r => zKeM σ0 (r.1)) := by
  unfold fX12_isEven_4_body
  exact zpc_if (fun _ => zpc_ck (zpc_if (fun _ => w_fX12_isEven_35 h) (fun _ => w_fX12_isEven_35 h))) (fun _ => zpc_bv (fun v1 _ => zpc_bv (fun v2 _ => hk4 _ _ _ _ h)))
theorem w_fX12_isEven_4 {σ0 : zSt} : ∀ (n : Nat) (y0 : zSt) (y1 : Int32) (y2 : Int32) (y3 : Int32), zKeM σ0 y0 → zpc (fX12_isEven_4 n y0 y1 y2 y3) (fun r => zKeM σ0 (r.1)) := by
  intro n
  induction n with
  | zero => intro y0 y1 y2 y3 h; exact zpc_none
  | succ n ih => intro y0 y1 y2 y3 h; exact w_fX12_isEven_4_body ih h
theorem w_fX12_isEven {σ0 : zSt} {σ : zSt} {x0 : Int32} (h : zKeM σ0 σ) : zpc (fX12_isEven σ x0) (fun r => zKeM σ0 (r.1)) := by
  unfold fX12_isEven
  exact w_fX12_isEven_4 _ _ _ _ _ h
theorem w_fX12_cc_64 {σ0 : zSt} {σ : zSt} {s0 : Int32} (h : zKeM σ0 σ) : zpc (fX12_cc_64 σ s0) (fun r => zKeM σ0 (r.1)) := by
  unfold fX12_cc_64
  exact zpc_ck (zpc_some h)
theorem w_fX12_cc_56 {σ0 : zSt} {σ : zSt} {s0 : Int32} {s1 : Int32} (h : zKeM σ0 σ) : zpc (fX12_cc_56 σ s0 s1) (fun r => zKeM σ0 (r.1)) := by
  unfold fX12_cc_56
  exact zpc_if (fun _ => w_fX12_cc_64 h) (fun _ => w_fX12_cc_64 h)
theorem w_fX12_cc_44 {σ0 : zSt} {σ : zSt} {x1 : Int32} {s0 : Int32} (h : zKeM σ0 σ) : zpc (fX12_cc_44 σ x1 s0) (fun r => zKeM σ0 (r.1)) := by
  unfold fX12_cc_44
  exact zpc_ck (zpc_if (fun _ => w_fX12_cc_56 h) (fun _ => w_fX12_cc_56 h))
theorem w_fX12_cc_32 {σ0 : zSt} {σ : zSt} {x1 : Int32} {s0 : Int32} (h : zKeM σ0 σ) : zpc (fX12_cc_32 σ x1 s0) (fun r => zKeM σ0 (r.1)) := by
  unfold fX12_cc_32
  exact zpc_bi (w_fX12_flag h) (fun σ1 v2 hσ1 => zpc_if (fun _ => w_fX12_cc_44 hσ1) (fun _ => w_fX12_cc_44 hσ1))
theorem w_fX12_cc {σ0 : zSt} {σ : zSt} {x1 : Int32} (h : zKeM σ0 σ) : zpc (fX12_cc σ x1) (fun r => zKeM σ0 (r.1)) := by
  unfold fX12_cc
  exact zpc_if (fun _ => zpc_if (fun _ => zpc_if (fun _ => w_fX12_cc_32 h) (fun _ => w_fX12_cc_32 h)) (fun _ => w_fX12_cc_32 h)) (fun _ => w_fX12_cc_32 h)
theorem w_fX12_push {σ0 : zSt} {σ : zSt} {x1 : Int32} (h : zKeM σ0 σ) : zpc (fX12_push σ x1) (fun r => zKeM σ0 (r)) := by
  unfold fX12_push
  exact zpc_ck (zpc_ck (zpc_bs (zKeM.wi h (by decide)) (fun σ1 hσ1 => zpc_ck (zpc_bu (w_fX12_write hσ1) (fun σ2 hσ2 => zpc_ck (zpc_ck (zpc_bs (zKeM.wi hσ2 (by decide)) (fun σ3 hσ3 => zpc_ck (zpc_bu (w_fX12_write hσ3) (fun σ4 hσ4 => zpc_some hσ4))))))))))
theorem w_fX12_pop {σ0 : zSt} {σ : zSt} (h : zKeM σ0 σ) : zpc (fX12_pop σ) (fun r => zKeM σ0 (r.1)) := by
  unfold fX12_pop
  exact zpc_ck (zpc_bi (w_fX12_read h) (fun σ1 v2 hσ1 => zpc_ck (zpc_ck (zpc_bs (zKeM.wi hσ1 (by decide)) (fun σ3 hσ3 => zpc_ck (zpc_bi (w_fX12_read hσ3) (fun σ4 v5 hσ4 => zpc_bv (fun v6 _ => zpc_ck (zpc_ck (zpc_bs (zKeM.wi hσ4 (by decide)) (fun σ7 hσ7 => zpc_some hσ7)))))))))))
theorem w_fX12_grows {σ0 : zSt} {σ : zSt} (h : zKeM σ0 σ) : zpc (fX12_grows σ) (fun r => zKeM σ0 (r)) := by
  unfold fX12_grows
  exact zpc_ck (zpc_ck (zpc_ck (zpc_bs (zKeM.wi h (by decide)) (fun σ1 hσ1 => zpc_some hσ1))))
theorem w_fX12_next {σ0 : zSt} {σ : zSt} (h : zKeM σ0 σ) : zpc (fX12_next σ) (fun r => zKeM σ0 (r.1)) := by
  unfold fX12_next
  exact zpc_ck (zpc_bi (w_fX12_read h) (fun σ1 v2 hσ1 => zpc_ck (zpc_ck (zpc_bs (zKeM.wi hσ1 (by decide)) (fun σ3 hσ3 => zpc_some hσ3)))))
theorem w_fX12_fetch {σ0 : zSt} {σ : zSt} (h : zKeM σ0 σ) : zpc (fX12_fetch σ) (fun r => zKeM σ0 (r.1)) := by
  unfold fX12_fetch
  exact zpc_bi (w_fX12_next h) (fun σ1 v2 hσ1 => zpc_bu (w_fX12_grows hσ1) (fun σ3 hσ3 => zpc_some hσ3))
theorem w_fX12_nextWord {σ0 : zSt} {σ : zSt} (h : zKeM σ0 σ) : zpc (fX12_nextWord σ) (fun r => zKeM σ0 (r.1)) := by
  unfold fX12_nextWord
  exact zpc_bi (w_fX12_next h) (fun σ1 v2 hσ1 => zpc_bi (w_fX12_next hσ1) (fun σ3 v4 hσ3 => zpc_some hσ3))
theorem w_fX12_signed_16 {σ0 : zSt} {σ : zSt} {s0 : Int32} (h : zKeM σ0 σ) : zpc (fX12_signed_16 σ s0) (fun r => zKeM σ0 (r.1)) := by
  unfold fX12_signed_16
  exact zpc_some h
theorem w_fX12_signed {σ0 : zSt} {σ : zSt} {x0 : Int32} (h : zKeM σ0 σ) : zpc (fX12_signed σ x0) (fun r => zKeM σ0 (r.1)) := by
  unfold fX12_signed
  exact zpc_if (fun _ => w_fX12_signed_16 h) (fun _ => w_fX12_signed_16 h)
theorem w_fX12_call {σ0 : zSt} {σ : zSt} {x1 : Int32} (h : zKeM σ0 σ) : zpc (fX12_call σ x1) (fun r => zKeM σ0 (r)) := by
  unfold fX12_call
  exact zpc_ck (zpc_bu (w_fX12_push h) (fun σ1 hσ1 => zpc_ck (zpc_bs (zKeM.wi hσ1 (by decide)) (fun σ2 hσ2 => zpc_ck (zpc_bs (zKeM.wi hσ2 (by decide)) (fun σ3 hσ3 => zpc_some hσ3))))))
theorem w_fX12_change {σ0 : zSt} {σ : zSt} {x1 : Int32} {x2 : Int32} (h : zKeM σ0 σ) : zpc (fX12_change σ x1 x2) (fun r => zKeM σ0 (r)) := by
  unfold fX12_change
  exact zpc_ck (zpc_bv (fun v1 _ => zpc_ck (zpc_ck (zpc_bs (zKeM.wi h (by decide)) (fun σ2 hσ2 => zpc_ck (zpc_bs (zKeM.wi hσ2 (by decide)) (fun σ3 hσ3 => zpc_some hσ3)))))))
theorem w_fX12_bit {σ0 : zSt} {σ : zSt} {x1 : Int32} {x2 : Int32} (h : zKeM σ0 σ) : zpc (fX12_bit σ x1 x2) (fun r => zKeM σ0 (r.1)) := by
  unfold fX12_bit
  exact zpc_ck (zpc_some h)
theorem w_fX12_mode_57 {σ0 : zSt} {σ : zSt} {s0 : Int32} (h : zKeM σ0 σ) : zpc (fX12_mode_57 σ s0) (fun r => zKeM σ0 (r.1)) := by
  unfold fX12_mode_57
  exact zpc_some h
theorem w_fX12_mode {σ0 : zSt} {σ : zSt} (h : zKeM σ0 σ) : zpc (fX12_mode σ) (fun r => zKeM σ0 (r.1)) := by
  unfold fX12_mode
  exact zpc_bi (w_fX12_bit h) (fun σ1 v2 hσ1 => zpc_if (fun _ => w_fX12_mode_57 hσ1) (fun _ => zpc_bi (w_fX12_bit hσ1) (fun σ3 v4 hσ3 => zpc_if (fun _ => w_fX12_mode_57 hσ3) (fun _ => zpc_bi (w_fX12_bit hσ3) (fun σ5 v6 hσ5 => zpc_if (fun _ => w_fX12_mode_57 hσ5) (fun _ => zpc_bi (w_fX12_bit hσ5) (fun σ7 v8 hσ7 => zpc_if (fun _ => w_fX12_mode_57 hσ7) (fun _ => w_fX12_mode_57 hσ7))))))))
theorem w_fX12_height_32 {σ0 : zSt} {σ : zSt} (h : zKeM σ0 σ) : zpc (fX12_height_32 σ) (fun r => zKeM σ0 (r.1)) := by
  unfold fX12_height_32
  exact zpc_some h
theorem w_fX12_height_55 {σ0 : zSt} {σ : zSt} {s0 : Int32} (h : zKeM σ0 σ) : zpc (fX12_height_55 σ s0) (fun r => zKeM σ0 (r.1)) := by
  unfold fX12_height_55
  exact zpc_some h
theorem w_fX12_height {σ0 : zSt} {σ : zSt} (h : zKeM σ0 σ) : zpc (fX12_height σ) (fun r => zKeM σ0 (r.1)) := by
  unfold fX12_height
  exact zpc_bi (w_fX12_mode h) (fun σ1 v2 hσ1 => zpc_if (fun _ => zpc_bi (w_fX12_bit hσ1) (fun σ3 v4 hσ3 => zpc_if (fun _ => w_fX12_height_32 hσ3) (fun _ => zpc_bi (w_fX12_bit hσ3) (fun σ5 v6 hσ5 => zpc_bi (w_fX12_bit hσ5) (fun σ7 v8 hσ7 => zpc_if (fun _ => w_fX12_height_32 hσ7) (fun _ => zpc_bi (w_fX12_bit hσ7) (fun σ9 v10 hσ9 => zpc_if (fun _ => w_fX12_height_55 hσ9) (fun _ => w_fX12_height_55 hσ9)))))))) (fun _ => w_fX12_height_32 hσ1))
theorem w_fX12_vCount_109 {σ0 : zSt} {σ : zSt} {s0 : Int32} (h : zKeM σ0 σ) : zpc (fX12_vCount_109 σ s0) (fun r => zKeM σ0 (r.1)) := by
  unfold fX12_vCount_109
  exact zpc_some h
theorem w_fX12_vCount_108 {σ0 : zSt} {σ : zSt} {s0 : Int32} {s1 : Int32} (h : zKeM σ0 σ) : zpc (fX12_vCount_108 σ s0 s1) (fun r => zKeM σ0 (r.1)) := by
  unfold fX12_vCount_108
  exact w_fX12_vCount_109 h
theorem w_fX12_vCount_82 {σ0 : zSt} {σ : zSt} {x1 : Int32} {s0 : Int32} (h : zKeM σ0 σ) : zpc (fX12_vCount_82 σ x1 s0) (fun r => zKeM σ0 (r.1)) := by
  unfold fX12_vCount_82
  exact zpc_if (fun _ => zpc_if (fun _ => w_fX12_vCount_108 h) (fun _ => w_fX12_vCount_108 h)) (fun _ => w_fX12_vCount_109 h)
theorem w_fX12_vCount {σ0 : zSt} {σ : zSt} (h : zKeM σ0 σ) : zpc (fX12_vCount σ) (fun r => zKeM σ0 (r.1)) := by
  unfold fX12_vCount
  exact zpc_ck (zpc_bv (fun v1 _ => zpc_bi (w_fX12_height h) (fun σ2 v3 hσ2 => zpc_if (fun _ => zpc_if (fun _ => w_fX12_vCount_82 hσ2) (fun _ => zpc_if (fun _ => w_fX12_vCount_82 hσ2) (fun _ => w_fX12_vCount_82 hσ2))) (fun _ => zpc_if (fun _ => w_fX12_vCount_82 hσ2) (fun _ => zpc_if (fun _ => w_fX12_vCount_82 hσ2) (fun _ => w_fX12_vCount_82 hσ2))))))
theorem w_fX12_status {σ0 : zSt} {σ : zSt} (h : zKeM σ0 σ) : zpc (fX12_status σ) (fun r => zKeM σ0 (r.1)) := by
  unfold fX12_status
  exact zpc_ck (zpc_bv (fun v1 _ => zpc_ck (zpc_bs (zKeM.wi h (by decide)) (fun σ2 hσ2 => zpc_ck (zpc_bs (zKeM.wi hσ2 (by decide)) (fun σ3 hσ3 => zpc_ck (zpc_bs (zKeM.wi hσ3 (by decide)) (fun σ4 hσ4 => zpc_some hσ4))))))))
theorem w_fX12_video8 {σ0 : zSt} {σ : zSt} {x1 : Int32} (h : zKeM σ0 σ) : zpc (fX12_video8 σ x1) (fun r => zKeM σ0 (r.1)) := by
  unfold fX12_video8
  exact zpc_ck (zpc_some h)
theorem w_fX12_further {σ0 : zSt} {σ : zSt} (h : zKeM σ0 σ) : zpc (fX12_further σ) (fun r => zKeM σ0 (r)) := by
  unfold fX12_further
  exact zpc_ck (zpc_ck (zpc_bs (zKeM.wi h (by decide)) (fun σ1 hσ1 => zpc_some hσ1)))
theorem w_fX12_data {σ0 : zSt} {σ : zSt} (h : zKeM σ0 σ) : zpc (fX12_data σ) (fun r => zKeM σ0 (r.1)) := by
  unfold fX12_data
  exact zpc_ck (zpc_bv (fun v1 _ => zpc_ck (zpc_bs (zKeM.wi h (by decide)) (fun σ2 hσ2 => zpc_ck (zpc_bi (w_fX12_video8 hσ2) (fun σ3 v4 hσ3 => zpc_ck (zpc_bs (zKeM.wi hσ3 (by decide)) (fun σ5 hσ5 => zpc_bu (w_fX12_further hσ5) (fun σ6 hσ6 => zpc_some hσ6)))))))))
theorem w_fX12_lineAt_45 {σ0 : zSt} {σ : zSt} {s0 : Int32} (h : zKeM σ0 σ) : zpc (fX12_lineAt_45 σ s0) (fun r => zKeM σ0 (r.1)) := by
  unfold fX12_lineAt_45
  exact zpc_some h
theorem w_fX12_lineAt {σ0 : zSt} {σ : zSt} {x1 : Int32} (h : zKeM σ0 σ) : zpc (fX12_lineAt σ x1) (fun r => zKeM σ0 (r.1)) := by
  unfold fX12_lineAt
  exact zpc_ck (zpc_if (fun _ => zpc_ck (w_fX12_lineAt_45 h)) (fun _ => zpc_ck (w_fX12_lineAt_45 h)))
theorem w_fX12_without_20 {σ0 : zSt} {σ : zSt} {s0 : Int32} (h : zKeM σ0 σ) : zpc (fX12_without_20 σ s0) (fun r => zKeM σ0 (r.1)) := by
  unfold fX12_without_20
  exact zpc_some h
theorem w_fX12_without {σ0 : zSt} {σ : zSt} {x1 : Int32} {x2 : Int32} {x3 : Int32} (h : zKeM σ0 σ) : zpc (fX12_without σ x1 x2 x3) (fun r => zKeM σ0 (r.1)) := by
  unfold fX12_without
  exact zpc_if (fun _ => w_fX12_without_20 h) (fun _ => w_fX12_without_20 h)
theorem w_fX12_port_32 {σ0 : zSt} {σ : zSt} (h : zKeM σ0 σ) : zpc (fX12_port_32 σ) (fun r => zKeM σ0 (r.1)) := by
  unfold fX12_port_32
  exact zpc_some h
theorem w_fX12_port_73 {σ0 : zSt} {σ : zSt} {s0 : Int32} (h : zKeM σ0 σ) : zpc (fX12_port_73 σ s0) (fun r => zKeM σ0 (r.1)) := by
  unfold fX12_port_73
  exact zpc_some h
theorem w_fX12_port_60 {σ0 : zSt} {σ : zSt} {s0 : Int32} {s1 : Int32} (h : zKeM σ0 σ) : zpc (fX12_port_60 σ s0 s1) (fun r => zKeM σ0 (r.1)) := by
  unfold fX12_port_60
  exact w_fX12_port_73 h
theorem w_fX12_port_99 {σ0 : zSt} {σ : zSt} {s0 : Int32} (h : zKeM σ0 σ) : zpc (fX12_port_99 σ s0) (fun r => zKeM σ0 (r.1)) := by
  unfold fX12_port_99
  exact zpc_some h
theorem w_fX12_port_122 {σ0 : zSt} {σ : zSt} {s0 : Int32} (h : zKeM σ0 σ) : zpc (fX12_port_122 σ s0) (fun r => zKeM σ0 (r.1)) := by
  unfold fX12_port_122
  exact zpc_some h
theorem w_fX12_port_230 {σ0 : zSt} {σ : zSt} {s0 : Int32} (h : zKeM σ0 σ) : zpc (fX12_port_230 σ s0) (fun r => zKeM σ0 (r.1)) := by
  unfold fX12_port_230
  exact zpc_some h
theorem w_fX12_port_289 {σ0 : zSt} {σ : zSt} {s0 : Int32} (h : zKeM σ0 σ) : zpc (fX12_port_289 σ s0) (fun r => zKeM σ0 (r.1)) := by
  unfold fX12_port_289
  exact zpc_some h
theorem w_fX12_port_147 {σ0 : zSt} {σ : zSt} {x2 : Int32} (h : zKeM σ0 σ) : zpc (fX12_port_147 σ x2) (fun r => zKeM σ0 (r.1)) := by
  unfold fX12_port_147
  exact zpc_if (fun _ => zpc_ck (zpc_ck (zpc_bv (fun v1 _ => zpc_ck (zpc_if (fun _ => zpc_ck (zpc_bi (w_fX12_without h) (fun σ2 v3 hσ2 => w_fX12_port_289 hσ2))) (fun _ => w_fX12_port_289 h)))))) (fun _ => zpc_ck (zpc_bv (fun v4 _ => zpc_bi (w_fX12_lineAt h) (fun σ5 v6 hσ5 => zpc_bi (w_fX12_without hσ5) (fun σ7 v8 hσ7 => zpc_bi (w_fX12_lineAt hσ7) (fun σ9 v10 hσ9 => zpc_bi (w_fX12_without hσ9) (fun σ11 v12 hσ11 => zpc_ck (zpc_if (fun _ => zpc_ck (zpc_bi (w_fX12_without hσ11) (fun σ13 v14 hσ13 => w_fX12_port_230 hσ13))) (fun _ => w_fX12_port_230 hσ11)))))))))
theorem w_fX12_port_12 {σ0 : zSt} {σ : zSt} {x1 : Int32} {s0 : Int32} (h : zKeM σ0 σ) : zpc (fX12_port_12 σ x1 s0) (fun r => zKeM σ0 (r.1)) := by
  unfold fX12_port_12
  exact zpc_if (fun _ => zpc_if (fun _ => zpc_if (fun _ => zpc_if (fun _ => zpc_if (fun _ => w_fX12_port_147 h) (fun _ => zpc_ck (zpc_some h))) (fun _ => w_fX12_port_147 h)) (fun _ => zpc_if (fun _ => zpc_bi (w_fX12_data h) (fun σ15 v16 hσ15 => w_fX12_port_122 hσ15)) (fun _ => zpc_bi (w_fX12_status h) (fun σ17 v18 hσ17 => w_fX12_port_122 hσ17)))) (fun _ => zpc_if (fun _ => zpc_bi (w_fX12_vCount h) (fun σ19 v20 hσ19 => w_fX12_port_99 hσ19)) (fun _ => zpc_ck (w_fX12_port_99 h)))) (fun _ => zpc_if (fun _ => zpc_if (fun _ => zpc_if (fun _ => zpc_ck (zpc_if (fun _ => w_fX12_port_60 h) (fun _ => w_fX12_port_60 h))) (fun _ => zpc_ck (w_fX12_port_73 h))) (fun _ => w_fX12_port_32 h)) (fun _ => w_fX12_port_32 h))
theorem w_fX12_port {σ0 : zSt} {σ : zSt} {x1 : Int32} (h : zKeM σ0 σ) : zpc (fX12_port σ x1) (fun r => zKeM σ0 (r.1)) := by
  unfold fX12_port
  exact zpc_ck (zpc_if (fun _ => w_fX12_port_12 h) (fun _ => w_fX12_port_12 h))
theorem w_fX12_hCount_27 {σ0 : zSt} {σ : zSt} {s0 : Int32} (h : zKeM σ0 σ) : zpc (fX12_hCount_27 σ s0) (fun r => zKeM σ0 (r.1)) := by
  unfold fX12_hCount_27
  exact zpc_some h
theorem w_fX12_hCount {σ0 : zSt} {σ : zSt} (h : zKeM σ0 σ) : zpc (fX12_hCount σ) (fun r => zKeM σ0 (r.1)) := by
  unfold fX12_hCount
  exact zpc_ck (zpc_ck (zpc_bv (fun v1 _ => zpc_if (fun _ => w_fX12_hCount_27 h) (fun _ => w_fX12_hCount_27 h))))
theorem w_fX12_noise_141 {σ0 : zSt} {σ : zSt} (h : zKeM σ0 σ) : zpc (fX12_noise_141 σ) (fun r => zKeM σ0 (r)) := by
  unfold fX12_noise_141
  exact zpc_some h
theorem w_fX12_noise_140 {σ0 : zSt} {σ : zSt} {s0 : Int32} {s1 : Int32} (h : zKeM σ0 σ) : zpc (fX12_noise_140 σ s0 s1) (fun r => zKeM σ0 (r)) := by
  unfold fX12_noise_140
  exact zpc_ck (zpc_bs (zKeM.wi h (by decide)) (fun σ1 hσ1 => w_fX12_noise_141 hσ1))
theorem w_fX12_noise_19 {σ0 : zSt} {σ : zSt} {x1 : Int32} (h : zKeM σ0 σ) : zpc (fX12_noise_19 σ x1) (fun r => zKeM σ0 (r)) := by
  unfold fX12_noise_19
  exact zpc_ck (zpc_ck (zpc_bv (fun v2 _ => zpc_ck (zpc_ck (zpc_if (fun _ => zpc_ck (zpc_bs (zKeM.wi h (by decide)) (fun σ5 hσ5 => w_fX12_noise_141 hσ5))) (fun _ => zpc_if (fun _ => zpc_ck (zpc_bs (zKeM.wi h (by decide)) (fun σ3 hσ3 => zpc_ck (zpc_bs (zKeM.wi hσ3 (by decide)) (fun σ4 hσ4 => w_fX12_noise_141 hσ4))))) (fun _ => zpc_if (fun _ => zpc_ck (w_fX12_noise_140 h)) (fun _ => zpc_ck (w_fX12_noise_140 h)))))))))
theorem w_fX12_noise {σ0 : zSt} {σ : zSt} {x1 : Int32} (h : zKeM σ0 σ) : zpc (fX12_noise σ x1) (fun r => zKeM σ0 (r)) := by
  unfold fX12_noise
  exact zpc_if (fun _ => w_fX12_noise_19 h) (fun _ => zpc_ck (zpc_bs (zKeM.wi h (by decide)) (fun σ6 hσ6 => w_fX12_noise_19 hσ6)))
theorem w_fX12_control_162 {σ0 : zSt} {σ : zSt} (h : zKeM σ0 σ) : zpc (fX12_control_162 σ) (fun r => zKeM σ0 (r)) := by
  unfold fX12_control_162
  exact zpc_some h
theorem w_fX12_control {σ0 : zSt} {σ : zSt} {x1 : Int32} (h : zKeM σ0 σ) : zpc (fX12_control σ x1) (fun r => zKeM σ0 (r)) := by
  unfold fX12_control
  exact zpc_ck (zpc_if (fun _ => zpc_ck (zpc_ck (zpc_bs (zKeM.wi h (by decide)) (fun σ9 hσ9 => zpc_ck (zpc_bs (zKeM.wi hσ9 (by decide)) (fun σ10 hσ10 => zpc_some hσ10)))))) (fun _ => zpc_ck (zpc_bs (zKeM.wi h (by decide)) (fun σ1 hσ1 => zpc_ck (zpc_ck (zpc_bs (zKeM.wi hσ1 (by decide)) (fun σ2 hσ2 => zpc_ck (zpc_bs (zKeM.wi hσ2 (by decide)) (fun σ3 hσ3 => zpc_ck (zpc_if (fun _ => zpc_ck (zpc_bi (w_fX12_video8 hσ3) (fun σ5 v6 hσ5 => zpc_ck (zpc_bs (zKeM.wi hσ5 (by decide)) (fun σ7 hσ7 => zpc_bu (w_fX12_further hσ7) (fun σ8 hσ8 => w_fX12_control_162 hσ8)))))) (fun _ => zpc_ck (zpc_if (fun _ => zpc_ck (zpc_if (fun _ => w_fX12_control_162 hσ3) (fun _ => zpc_ck (zpc_ck (zpc_ck (zpc_bs (zKeM.wi hσ3 (by decide)) (fun σ4 hσ4 => w_fX12_control_162 hσ4))))))) (fun _ => w_fX12_control_162 hσ3)))))))))))))
theorem w_fX12_dataTo_115 {σ0 : zSt} {σ : zSt} (h : zKeM σ0 σ) : zpc (fX12_dataTo_115 σ) (fun r => zKeM σ0 (r)) := by
  unfold fX12_dataTo_115
  exact zpc_bu (w_fX12_further h) (fun σ1 hσ1 => zpc_some hσ1)
theorem w_fX12_dataTo {σ0 : zSt} {σ : zSt} {x1 : Int32} (h : zKeM σ0 σ) : zpc (fX12_dataTo σ x1) (fun r => zKeM σ0 (r)) := by
  unfold fX12_dataTo
  exact zpc_ck (zpc_bs (zKeM.wi h (by decide)) (fun σ2 hσ2 => zpc_ck (zpc_bs (zKeM.wi hσ2 (by decide)) (fun σ3 hσ3 => zpc_ck (zpc_bv (fun v4 _ => zpc_ck (zpc_if (fun _ => zpc_if (fun _ => zpc_ck (zpc_if (fun _ => zpc_ck (zpc_bs (zKeM.wi hσ3 (by decide)) (fun σ7 hσ7 => w_fX12_dataTo_115 hσ7))) (fun _ => zpc_ck (zpc_ck (zpc_ck (zpc_bs (zKeM.wi hσ3 (by decide)) (fun σ5 hσ5 => zpc_ck (zpc_ck (zpc_bs (zKeM.wi hσ5 (by decide)) (fun σ6 hσ6 => w_fX12_dataTo_115 hσ6)))))))))) (fun _ => zpc_ck (zpc_ck (zpc_bs (zKeM.wi hσ3 (by decide)) (fun σ8 hσ8 => w_fX12_dataTo_115 hσ8))))) (fun _ => zpc_ck (zpc_bs (zKeM.wi hσ3 (by decide)) (fun σ9 hσ9 => w_fX12_dataTo_115 hσ9))))))))))
theorem w_fX12_portTo_267 {σ0 : zSt} {σ : zSt} (h : zKeM σ0 σ) : zpc (fX12_portTo_267 σ) (fun r => zKeM σ0 (r)) := by
  unfold fX12_portTo_267
  exact zpc_some h
theorem w_fX12_portTo_140 {σ0 : zSt} {σ : zSt} (h : zKeM σ0 σ) : zpc (fX12_portTo_140 σ) (fun r => zKeM σ0 (r)) := by
  unfold fX12_portTo_140
  exact w_fX12_portTo_267 h
theorem w_fX12_portTo_129 {σ0 : zSt} {σ : zSt} (h : zKeM σ0 σ) : zpc (fX12_portTo_129 σ) (fun r => zKeM σ0 (r)) := by
  unfold fX12_portTo_129
  exact zpc_bi (w_fX12_hCount h) (fun σ1 v2 hσ1 => zpc_ck (zpc_bs (zKeM.wi hσ1 (by decide)) (fun σ3 hσ3 => w_fX12_portTo_140 hσ3)))
theorem w_fX12_portTo_115 {σ0 : zSt} {σ : zSt} {x5 : Int32} (h : zKeM σ0 σ) : zpc (fX12_portTo_115 σ x5) (fun r => zKeM σ0 (r)) := by
  unfold fX12_portTo_115
  exact zpc_if (fun _ => zpc_bi (w_fX12_lineAt h) (fun σ4 v5 hσ4 => zpc_if (fun _ => w_fX12_portTo_129 hσ4) (fun _ => w_fX12_portTo_140 hσ4))) (fun _ => w_fX12_portTo_140 h)
theorem w_fX12_portTo_75 {σ0 : zSt} {σ : zSt} {x2 : Int32} {x3 : Int32} (h : zKeM σ0 σ) : zpc (fX12_portTo_75 σ x2 x3) (fun r => zKeM σ0 (r)) := by
  unfold fX12_portTo_75
  exact zpc_if (fun _ => w_fX12_portTo_267 h) (fun _ => zpc_bi (w_fX12_lineAt h) (fun σ6 v7 hσ6 => zpc_bi (w_fX12_lineAt hσ6) (fun σ8 v9 hσ8 => zpc_ck (zpc_bs (zKeM.wi hσ8 (by decide)) (fun σ10 hσ10 => zpc_if (fun _ => zpc_bi (w_fX12_lineAt hσ10) (fun σ11 v12 hσ11 => zpc_if (fun _ => w_fX12_portTo_129 hσ11) (fun _ => w_fX12_portTo_115 hσ11))) (fun _ => w_fX12_portTo_115 hσ10))))))
theorem w_fX12_portTo_50 {σ0 : zSt} {σ : zSt} {x1 : Int32} {x2 : Int32} {x3 : Int32} (h : zKeM σ0 σ) : zpc (fX12_portTo_50 σ x1 x2 x3) (fun r => zKeM σ0 (r)) := by
  unfold fX12_portTo_50
  exact zpc_if (fun _ => zpc_if (fun _ => zpc_ck (zpc_bs (zKeM.wi h (by decide)) (fun σ13 hσ13 => w_fX12_portTo_267 hσ13))) (fun _ => w_fX12_portTo_75 h)) (fun _ => w_fX12_portTo_75 h)
theorem w_fX12_portTo_12 {σ0 : zSt} {σ : zSt} {x1 : Int32} {x2 : Int32} {s0 : Int32} (h : zKeM σ0 σ) : zpc (fX12_portTo_12 σ x1 x2 s0) (fun r => zKeM σ0 (r)) := by
  unfold fX12_portTo_12
  exact zpc_if (fun _ => zpc_if (fun _ => zpc_if (fun _ => zpc_if (fun _ => w_fX12_portTo_267 h) (fun _ => zpc_if (fun _ => w_fX12_portTo_267 h) (fun _ => zpc_if (fun _ => w_fX12_portTo_267 h) (fun _ => zpc_if (fun _ => zpc_ck (zpc_ck (zpc_bs (zKeM.wi h (by decide)) (fun σ16 hσ16 => w_fX12_portTo_267 hσ16)))) (fun _ => zpc_if (fun _ => zpc_ck (zpc_ck (zpc_bs (zKeM.wi h (by decide)) (fun σ15 hσ15 => w_fX12_portTo_267 hσ15)))) (fun _ => zpc_ck (zpc_ck (zpc_bs (zKeM.wi h (by decide)) (fun σ14 hσ14 => w_fX12_portTo_267 hσ14))))))))) (fun _ => zpc_if (fun _ => zpc_bu (w_fX12_dataTo h) (fun σ17 hσ17 => w_fX12_portTo_267 hσ17)) (fun _ => zpc_bu (w_fX12_control h) (fun σ18 hσ18 => w_fX12_portTo_267 hσ18)))) (fun _ => zpc_bu (w_fX12_noise h) (fun σ19 hσ19 => w_fX12_portTo_267 hσ19))) (fun _ => zpc_if (fun _ => zpc_if (fun _ => w_fX12_portTo_50 h) (fun _ => zpc_if (fun _ => w_fX12_portTo_50 h) (fun _ => zpc_ck (zpc_bs (zKeM.wi h (by decide)) (fun σ20 hσ20 => w_fX12_portTo_267 hσ20))))) (fun _ => w_fX12_portTo_50 h))
theorem w_fX12_portTo {σ0 : zSt} {σ : zSt} {x1 : Int32} {x2 : Int32} (h : zKeM σ0 σ) : zpc (fX12_portTo σ x1 x2) (fun r => zKeM σ0 (r)) := by
  unfold fX12_portTo
  exact zpc_ck (zpc_if (fun _ => w_fX12_portTo_12 h) (fun _ => w_fX12_portTo_12 h))
theorem w_fX12_turned_118 {σ0 : zSt} {σ : zSt} {s0 : Int32} (h : zKeM σ0 σ) : zpc (fX12_turned_118 σ s0) (fun r => zKeM σ0 (r.1)) := by
  unfold fX12_turned_118
  exact zpc_some h
theorem w_fX12_turned_89 {σ0 : zSt} {σ : zSt} {x2 : Int32} {x3 : Int32} {x5 : Int32} {s0 : Int32} {s1 : Int32} (h : zKeM σ0 σ) : zpc (fX12_turned_89 σ x2 x3 x5 s0 s1) (fun r => zKeM σ0 (r.1)) := by
  unfold fX12_turned_89
  exact zpc_bu (w_fX12_put h) (fun σ1 hσ1 => zpc_if (fun _ => w_fX12_turned_118 hσ1) (fun _ => w_fX12_turned_118 hσ1))
theorem w_fX12_turned_74 {σ0 : zSt} {σ : zSt} {x2 : Int32} {x3 : Int32} {x4 : Int32} {s0 : Int32} (h : zKeM σ0 σ) : zpc (fX12_turned_74 σ x2 x3 x4 s0) (fun r => zKeM σ0 (r.1)) := by
  unfold fX12_turned_74
  exact zpc_if (fun _ => w_fX12_turned_89 h) (fun _ => w_fX12_turned_89 h)
theorem w_fX12_turned_26 {σ0 : zSt} {σ : zSt} {x1 : Int32} {x2 : Int32} {x3 : Int32} {s0 : Int32} (h : zKeM σ0 σ) : zpc (fX12_turned_26 σ x1 x2 x3 s0) (fun r => zKeM σ0 (r.1)) := by
  unfold fX12_turned_26
  exact zpc_if (fun _ => zpc_if (fun _ => zpc_if (fun _ => w_fX12_turned_74 h) (fun _ => zpc_if (fun _ => w_fX12_turned_74 h) (fun _ => w_fX12_turned_74 h))) (fun _ => zpc_bi (w_fX12_flag h) (fun σ2 v3 hσ2 => w_fX12_turned_74 hσ2))) (fun _ => w_fX12_turned_74 h)
theorem w_fX12_turned_11 {σ0 : zSt} {σ : zSt} {x1 : Int32} {x2 : Int32} {s0 : Int32} (h : zKeM σ0 σ) : zpc (fX12_turned_11 σ x1 x2 s0) (fun r => zKeM σ0 (r.1)) := by
  unfold fX12_turned_11
  exact zpc_if (fun _ => w_fX12_turned_26 h) (fun _ => w_fX12_turned_26 h)
theorem w_fX12_turned {σ0 : zSt} {σ : zSt} {x1 : Int32} {x2 : Int32} (h : zKeM σ0 σ) : zpc (fX12_turned σ x1 x2) (fun r => zKeM σ0 (r.1)) := by
  unfold fX12_turned
  exact zpc_ck (zpc_if (fun _ => w_fX12_turned_11 h) (fun _ => w_fX12_turned_11 h))
theorem w_fX12_turn_122 {σ0 : zSt} {σ : zSt} {s0 : Int32} (h : zKeM σ0 σ) : zpc (fX12_turn_122 σ s0) (fun r => zKeM σ0 (r.1)) := by
  unfold fX12_turn_122
  exact zpc_some h
theorem w_fX12_turn_106 {σ0 : zSt} {σ : zSt} {x3 : Int32} {s0 : Int32} (h : zKeM σ0 σ) : zpc (fX12_turn_106 σ x3 s0) (fun r => zKeM σ0 (r.1)) := by
  unfold fX12_turn_106
  exact zpc_bu (w_fX12_xy h) (fun σ1 hσ1 => zpc_if (fun _ => w_fX12_turn_122 hσ1) (fun _ => w_fX12_turn_122 hσ1))
theorem w_fX12_turn_69 {σ0 : zSt} {σ : zSt} {x3 : Int32} {x4 : Int32} {s0 : Int32} {s1 : Int32} (h : zKeM σ0 σ) : zpc (fX12_turn_69 σ x3 x4 s0 s1) (fun r => zKeM σ0 (r.1)) := by
  unfold fX12_turn_69
  exact zpc_bu (w_fX12_put h) (fun σ2 hσ2 => zpc_bu (w_fX12_put hσ2) (fun σ3 hσ3 => zpc_bu (w_fX12_put hσ3) (fun σ4 hσ4 => zpc_if (fun _ => zpc_ck (w_fX12_turn_106 hσ4)) (fun _ => w_fX12_turn_106 hσ4))))
theorem w_fX12_turn_219 {σ0 : zSt} {σ : zSt} {s0 : Int32} (h : zKeM σ0 σ) : zpc (fX12_turn_219 σ s0) (fun r => zKeM σ0 (r.1)) := by
  unfold fX12_turn_219
  exact zpc_some h
theorem w_fX12_turn_193 {σ0 : zSt} {σ : zSt} {x3 : Int32} {x4 : Int32} (h : zKeM σ0 σ) : zpc (fX12_turn_193 σ x3 x4) (fun r => zKeM σ0 (r.1)) := by
  unfold fX12_turn_193
  exact zpc_bu (w_fX12_rTo h) (fun σ5 hσ5 => zpc_bs (zKeM.w0 hσ5 (by decide)) (fun σ6 hσ6 => zpc_if (fun _ => w_fX12_turn_219 hσ6) (fun _ => w_fX12_turn_219 hσ6)))
theorem w_fX12_turn_191 {σ0 : zSt} {σ : zSt} {x3 : Int32} {s0 : Int32} (h : zKeM σ0 σ) : zpc (fX12_turn_191 σ x3 s0) (fun r => zKeM σ0 (r.1)) := by
  unfold fX12_turn_191
  exact w_fX12_turn_193 h
theorem w_fX12_turn_23 {σ0 : zSt} {σ : zSt} {x1 : Int32} {x2 : Int32} {s0 : Int32} (h : zKeM σ0 σ) : zpc (fX12_turn_23 σ x1 x2 s0) (fun r => zKeM σ0 (r.1)) := by
  unfold fX12_turn_23
  exact zpc_bi (w_fX12_r h) (fun σ7 v8 hσ7 => zpc_bv (fun v9 _ => zpc_if (fun _ => zpc_bv (fun v18 _ => zpc_bu (w_fX12_by hσ7) (fun σ19 hσ19 => zpc_if (fun _ => w_fX12_turn_69 hσ19) (fun _ => w_fX12_turn_69 hσ19)))) (fun _ => zpc_if (fun _ => zpc_bi (w_fX12_turned hσ7) (fun σ10 v11 hσ10 => zpc_bu (w_fX12_by hσ10) (fun σ12 hσ12 => zpc_bi (w_fX12_isEven hσ12) (fun σ13 v14 hσ13 => zpc_bu (w_fX12_put hσ13) (fun σ15 hσ15 => zpc_bu (w_fX12_put hσ15) (fun σ16 hσ16 => zpc_bu (w_fX12_put hσ16) (fun σ17 hσ17 => w_fX12_turn_193 hσ17))))))) (fun _ => zpc_if (fun _ => w_fX12_turn_191 hσ7) (fun _ => w_fX12_turn_191 hσ7)))))
theorem w_fX12_turn {σ0 : zSt} {σ : zSt} {x1 : Int32} (h : zKeM σ0 σ) : zpc (fX12_turn σ x1) (fun r => zKeM σ0 (r.1)) := by
  unfold fX12_turn
  exact zpc_bv (fun v20 _ => zpc_if (fun _ => w_fX12_turn_23 h) (fun _ => w_fX12_turn_23 h))
theorem w_fX12_turns {σ0 : zSt} {σ : zSt} (h : zKeM σ0 σ) : zpc (fX12_turns σ) (fun r => zKeM σ0 (r.1)) := by
  unfold fX12_turns
  exact zpc_bi (w_fX12_fetch h) (fun σ1 v2 hσ1 => zpc_bi (w_fX12_turn hσ1) (fun σ3 v4 hσ3 => zpc_some hσ3))
theorem w_fX12_three_200 {σ0 : zSt} {σ : zSt} {s0 : Int32} (h : zKeM σ0 σ) : zpc (fX12_three_200 σ s0) (fun r => zKeM σ0 (r.1)) := by
  unfold fX12_three_200
  exact zpc_some h
theorem w_fX12_three_189 {σ0 : zSt} {σ : zSt} {x3 : Int32} (h : zKeM σ0 σ) : zpc (fX12_three_189 σ x3) (fun r => zKeM σ0 (r.1)) := by
  unfold fX12_three_189
  exact zpc_if (fun _ => w_fX12_three_200 h) (fun _ => w_fX12_three_200 h)
theorem w_fX12_three_173 {σ0 : zSt} {σ : zSt} {x3 : Int32} (h : zKeM σ0 σ) : zpc (fX12_three_173 σ x3) (fun r => zKeM σ0 (r.1)) := by
  unfold fX12_three_173
  exact zpc_if (fun _ => zpc_bi (w_fX12_hl h) (fun σ1 v2 hσ1 => zpc_ck (zpc_bs (zKeM.wi hσ1 (by decide)) (fun σ3 hσ3 => w_fX12_three_189 hσ3)))) (fun _ => w_fX12_three_189 h)
theorem w_fX12_three_157 {σ0 : zSt} {σ : zSt} {x3 : Int32} (h : zKeM σ0 σ) : zpc (fX12_three_157 σ x3) (fun r => zKeM σ0 (r.1)) := by
  unfold fX12_three_157
  exact zpc_if (fun _ => zpc_bi (w_fX12_hl h) (fun σ4 v5 hσ4 => zpc_ck (zpc_bs (zKeM.wi hσ4 (by decide)) (fun σ6 hσ6 => w_fX12_three_173 hσ6)))) (fun _ => w_fX12_three_173 h)
theorem w_fX12_three_128_body {σ0 : zSt} {k128 : zSt → Int32 → Int32 → Option (zSt × Int32)} (hk128 : ∀ (y0 : zSt) (y1 : Int32) (y2 : Int32), zKeM σ0 y0 → zpc (k128 y0 y1 y2) (fun r => zKeM σ0 (r.1))) {σ : zSt} {x3 : Int32} {x4 : Int32} (h : zKeM σ0 σ) : zpc (fX12_three_128_body k128 σ x3 x4) (fun r => zKeM σ0 (r.1)) := by
  unfold fX12_three_128_body
  exact zpc_if (fun _ => zpc_if (fun _ => w_fX12_three_157 h) (fun _ => zpc_bu (w_fX12_change h) (fun σ7 hσ7 => zpc_bv (fun v8 _ => hk128 _ _ _ hσ7)))) (fun _ => w_fX12_three_157 h)
theorem w_fX12_three_128 {σ0 : zSt} : ∀ (n : Nat) (y0 : zSt) (y1 : Int32) (y2 : Int32), zKeM σ0 y0 → zpc (fX12_three_128 n y0 y1 y2) (fun r => zKeM σ0 (r.1)) := by
  intro n
  induction n with
  | zero => intro y0 y1 y2 h; exact zpc_none
  | succ n ih => intro y0 y1 y2 h; exact w_fX12_three_128_body ih h
theorem w_fX12_three_239 {σ0 : zSt} {σ : zSt} (h : zKeM σ0 σ) : zpc (fX12_three_239 σ) (fun r => zKeM σ0 (r.1)) := by
  unfold fX12_three_239
  exact zpc_some h
theorem w_fX12_three_502 {σ0 : zSt} {σ : zSt} (h : zKeM σ0 σ) : zpc (fX12_three_502 σ) (fun r => zKeM σ0 (r.1)) := by
  unfold fX12_three_502
  exact zpc_some h
theorem w_fX12_three_88 {σ0 : zSt} {σ : zSt} {x1 : Int32} {x2 : Int32} {x3 : Int32} (h : zKeM σ0 σ) : zpc (fX12_three_88 σ x1 x2 x3) (fun r => zKeM σ0 (r.1)) := by
  unfold fX12_three_88
  exact zpc_if (fun _ => zpc_if (fun _ => zpc_bi (w_fX12_pop h) (fun σ43 v44 hσ43 => zpc_ck (zpc_bs (zKeM.wi hσ43 (by decide)) (fun σ45 hσ45 => zpc_ck (zpc_ck (zpc_bs (zKeM.wi hσ45 (by decide)) (fun σ46 hσ46 => zpc_some hσ46))))))) (fun _ => w_fX12_three_128 _ _ _ _ h)) (fun _ => zpc_if (fun _ => zpc_bi (w_fX12_nextWord h) (fun σ37 v38 hσ37 => zpc_ck (zpc_bs (zKeM.wi hσ37 (by decide)) (fun σ39 hσ39 => zpc_bi (w_fX12_cc hσ39) (fun σ40 v41 hσ40 => zpc_if (fun _ => w_fX12_three_239 hσ40) (fun _ => zpc_ck (zpc_ck (zpc_bs (zKeM.wi hσ40 (by decide)) (fun σ42 hσ42 => w_fX12_three_239 hσ42))))))))) (fun _ => zpc_if (fun _ => zpc_bi (w_fX12_nextWord h) (fun σ9 v10 hσ9 => zpc_ck (zpc_bs (zKeM.wi hσ9 (by decide)) (fun σ11 hσ11 => zpc_ck (zpc_ck (zpc_bs (zKeM.wi hσ11 (by decide)) (fun σ12 hσ12 => zpc_some hσ12))))))) (fun _ => zpc_if (fun _ => zpc_bi (w_fX12_turns h) (fun σ13 v14 hσ13 => zpc_some hσ13)) (fun _ => zpc_if (fun _ => zpc_bi (w_fX12_next h) (fun σ15 v16 hσ15 => zpc_ck (zpc_bu (w_fX12_portTo hσ15) (fun σ17 hσ17 => zpc_ck (zpc_ck (zpc_bs (zKeM.wi hσ17 (by decide)) (fun σ18 hσ18 => zpc_some hσ18))))))) (fun _ => zpc_if (fun _ => zpc_bi (w_fX12_next h) (fun σ19 v20 hσ19 => zpc_ck (zpc_ck (zpc_bs (zKeM.wi hσ19 (by decide)) (fun σ21 hσ21 => zpc_bi (w_fX12_port hσ21) (fun σ22 v23 hσ22 => zpc_ck (zpc_bs (zKeM.wi hσ22 (by decide)) (fun σ24 hσ24 => zpc_some hσ24)))))))) (fun _ => zpc_if (fun _ => zpc_ck (zpc_bi (w_fX12_word h) (fun σ25 v26 hσ25 => zpc_ck (zpc_bi (w_fX12_hl hσ25) (fun σ27 v28 hσ27 => zpc_bu (w_fX12_wordTo hσ27) (fun σ29 hσ29 => zpc_bu (w_fX12_hlTo hσ29) (fun σ30 hσ30 => zpc_ck (zpc_bs (zKeM.wi hσ30 (by decide)) (fun σ31 hσ31 => zpc_some hσ31))))))))) (fun _ => zpc_if (fun _ => zpc_bu (w_fX12_change h) (fun σ32 hσ32 => zpc_bu (w_fX12_change hσ32) (fun σ33 hσ33 => zpc_some hσ33))) (fun _ => zpc_ck (zpc_bs (zKeM.wi h (by decide)) (fun σ34 hσ34 => zpc_ck (zpc_bs (zKeM.wi hσ34 (by decide)) (fun σ35 hσ35 => zpc_if (fun _ => zpc_ck (zpc_bs (zKeM.wi hσ35 (by decide)) (fun σ36 hσ36 => w_fX12_three_502 hσ36))) (fun _ => w_fX12_three_502 hσ35)))))))))))))
theorem w_fX12_three_85 {σ0 : zSt} {σ : zSt} (h : zKeM σ0 σ) : zpc (fX12_three_85 σ) (fun r => zKeM σ0 (r.1)) := by
  unfold fX12_three_85
  exact zpc_some h
theorem w_fX12_three {σ0 : zSt} {σ : zSt} {x1 : Int32} {x2 : Int32} (h : zKeM σ0 σ) : zpc (fX12_three σ x1 x2) (fun r => zKeM σ0 (r.1)) := by
  unfold fX12_three
  exact zpc_bv (fun v47 _ => zpc_if (fun _ => zpc_bi (w_fX12_cc h) (fun σ52 v53 hσ52 => zpc_if (fun _ => zpc_some hσ52) (fun _ => zpc_bi (w_fX12_pop hσ52) (fun σ54 v55 hσ54 => zpc_ck (zpc_bs (zKeM.wi hσ54 (by decide)) (fun σ56 hσ56 => zpc_ck (zpc_ck (zpc_bs (zKeM.wi hσ56 (by decide)) (fun σ57 hσ57 => zpc_some hσ57))))))))) (fun _ => zpc_if (fun _ => zpc_ck (zpc_if (fun _ => zpc_bi (w_fX12_pop h) (fun σ48 v49 hσ48 => zpc_if (fun _ => zpc_bu (w_fX12_pairTo hσ48) (fun σ51 hσ51 => w_fX12_three_85 hσ51)) (fun _ => zpc_bu (w_fX12_rpTo hσ48) (fun σ50 hσ50 => w_fX12_three_85 hσ50)))) (fun _ => w_fX12_three_88 h))) (fun _ => w_fX12_three_88 h)))
theorem w_fX12_does_343 {σ0 : zSt} {σ : zSt} (h : zKeM σ0 σ) : zpc (fX12_does_343 σ) (fun r => zKeM σ0 (r)) := by
  unfold fX12_does_343
  exact zpc_some h
theorem w_fX12_does_314 {σ0 : zSt} {σ : zSt} {x1 : Int32} {x2 : Int32} {x6 : Int32} {s0 : Int32} {s1 : Int32} (h : zKeM σ0 σ) : zpc (fX12_does_314 σ x1 x2 x6 s0 s1) (fun r => zKeM σ0 (r)) := by
  unfold fX12_does_314
  exact zpc_bu (w_fX12_put h) (fun σ1 hσ1 => zpc_if (fun _ => zpc_bu (w_fX12_xy hσ1) (fun σ3 hσ3 => w_fX12_does_343 hσ3)) (fun _ => zpc_ck (zpc_bs (zKeM.wi hσ1 (by decide)) (fun σ2 hσ2 => w_fX12_does_343 hσ2))))
theorem w_fX12_does_299 {σ0 : zSt} {σ : zSt} {x1 : Int32} {x2 : Int32} {x5 : Int32} {x6 : Int32} {s0 : Int32} {s1 : Int32} (h : zKeM σ0 σ) : zpc (fX12_does_299 σ x1 x2 x5 x6 s0 s1) (fun r => zKeM σ0 (r)) := by
  unfold fX12_does_299
  exact zpc_bu (w_fX12_put h) (fun σ4 hσ4 => zpc_if (fun _ => w_fX12_does_314 hσ4) (fun _ => w_fX12_does_314 hσ4))
theorem w_fX12_does_294 {σ0 : zSt} {σ : zSt} {x1 : Int32} {x2 : Int32} {x5 : Int32} {x6 : Int32} {s0 : Int32} (h : zKeM σ0 σ) : zpc (fX12_does_294 σ x1 x2 x5 x6 s0) (fun r => zKeM σ0 (r)) := by
  unfold fX12_does_294
  exact w_fX12_does_299 h
theorem w_fX12_does_266 {σ0 : zSt} {σ : zSt} {x1 : Int32} {x2 : Int32} {x5 : Int32} {x6 : Int32} {s0 : Int32} (h : zKeM σ0 σ) : zpc (fX12_does_266 σ x1 x2 x5 x6 s0) (fun r => zKeM σ0 (r)) := by
  unfold fX12_does_266
  exact zpc_bu (w_fX12_by h) (fun σ5 hσ5 => zpc_if (fun _ => w_fX12_does_294 hσ5) (fun _ => zpc_if (fun _ => w_fX12_does_299 hσ5) (fun _ => w_fX12_does_294 hσ5)))
theorem w_fX12_does_231 {σ0 : zSt} {σ : zSt} {x1 : Int32} {x2 : Int32} {x3 : Int32} {x4 : Int32} {x5 : Int32} {x6 : Int32} {s0 : Int32} {s1 : Int32} (h : zKeM σ0 σ) : zpc (fX12_does_231 σ x1 x2 x3 x4 x5 x6 s0 s1) (fun r => zKeM σ0 (r)) := by
  unfold fX12_does_231
  exact zpc_bu (w_fX12_put h) (fun σ6 hσ6 => zpc_if (fun _ => zpc_bi (w_fX12_signed hσ6) (fun σ7 v8 hσ7 => zpc_bi (w_fX12_signed hσ7) (fun σ9 v10 hσ9 => w_fX12_does_266 hσ9))) (fun _ => zpc_bi (w_fX12_signed hσ6) (fun σ11 v12 hσ11 => zpc_bi (w_fX12_signed hσ11) (fun σ13 v14 hσ13 => w_fX12_does_266 hσ13))))
theorem w_fX12_does_226 {σ0 : zSt} {σ : zSt} {x1 : Int32} {x2 : Int32} {x3 : Int32} {x4 : Int32} {x5 : Int32} {x6 : Int32} {s0 : Int32} (h : zKeM σ0 σ) : zpc (fX12_does_226 σ x1 x2 x3 x4 x5 x6 s0) (fun r => zKeM σ0 (r)) := by
  unfold fX12_does_226
  exact w_fX12_does_231 h
theorem w_fX12_does_208 {σ0 : zSt} {σ : zSt} {x1 : Int32} {x2 : Int32} {x3 : Int32} {x4 : Int32} {x5 : Int32} {x6 : Int32} {s0 : Int32} {s1 : Int32} (h : zKeM σ0 σ) : zpc (fX12_does_208 σ x1 x2 x3 x4 x5 x6 s0 s1) (fun r => zKeM σ0 (r)) := by
  unfold fX12_does_208
  exact zpc_bu (w_fX12_put h) (fun σ15 hσ15 => zpc_if (fun _ => w_fX12_does_226 hσ15) (fun _ => zpc_if (fun _ => w_fX12_does_231 hσ15) (fun _ => w_fX12_does_226 hσ15)))
theorem w_fX12_does_154 {σ0 : zSt} {σ : zSt} {x1 : Int32} {x2 : Int32} {x3 : Int32} {x4 : Int32} {x5 : Int32} {s0 : Int32} (h : zKeM σ0 σ) : zpc (fX12_does_154 σ x1 x2 x3 x4 x5 s0) (fun r => zKeM σ0 (r)) := by
  unfold fX12_does_154
  exact zpc_if (fun _ => zpc_if (fun _ => w_fX12_does_208 h) (fun _ => w_fX12_does_208 h)) (fun _ => zpc_if (fun _ => w_fX12_does_208 h) (fun _ => w_fX12_does_208 h))
theorem w_fX12_does_132 {σ0 : zSt} {σ : zSt} {x1 : Int32} {x2 : Int32} {x3 : Int32} {x4 : Int32} {s0 : Int32} (h : zKeM σ0 σ) : zpc (fX12_does_132 σ x1 x2 x3 x4 s0) (fun r => zKeM σ0 (r)) := by
  unfold fX12_does_132
  exact zpc_if (fun _ => w_fX12_does_154 h) (fun _ => w_fX12_does_154 h)
theorem w_fX12_does_120 {σ0 : zSt} {σ : zSt} {x1 : Int32} {x2 : Int32} {x3 : Int32} {s0 : Int32} (h : zKeM σ0 σ) : zpc (fX12_does_120 σ x1 x2 x3 s0) (fun r => zKeM σ0 (r)) := by
  unfold fX12_does_120
  exact zpc_if (fun _ => w_fX12_does_132 h) (fun _ => w_fX12_does_132 h)
theorem w_fX12_does_111 {σ0 : zSt} {σ : zSt} {x1 : Int32} {x2 : Int32} {x3 : Int32} (h : zKeM σ0 σ) : zpc (fX12_does_111 σ x1 x2 x3) (fun r => zKeM σ0 (r)) := by
  unfold fX12_does_111
  exact zpc_bi (w_fX12_flag h) (fun σ16 v17 hσ16 => w_fX12_does_120 hσ16)
theorem w_fX12_does_101 {σ0 : zSt} {σ : zSt} {x1 : Int32} {x2 : Int32} {x3 : Int32} (h : zKeM σ0 σ) : zpc (fX12_does_101 σ x1 x2 x3) (fun r => zKeM σ0 (r)) := by
  unfold fX12_does_101
  exact zpc_if (fun _ => w_fX12_does_111 h) (fun _ => zpc_if (fun _ => w_fX12_does_111 h) (fun _ => w_fX12_does_120 h))
theorem w_fX12_does_71 {σ0 : zSt} {σ : zSt} {s0 : Int32} {s1 : Int32} (h : zKeM σ0 σ) : zpc (fX12_does_71 σ s0 s1) (fun r => zKeM σ0 (r)) := by
  unfold fX12_does_71
  exact zpc_bu (w_fX12_put h) (fun σ18 hσ18 => zpc_ck (zpc_bi (w_fX12_isEven hσ18) (fun σ19 v20 hσ19 => zpc_bu (w_fX12_put hσ19) (fun σ21 hσ21 => zpc_bu (w_fX12_put hσ21) (fun σ22 hσ22 => zpc_bu (w_fX12_put hσ22) (fun σ23 hσ23 => zpc_some hσ23))))))
theorem w_fX12_does_48 {σ0 : zSt} {σ : zSt} {x1 : Int32} {s0 : Int32} {s1 : Int32} (h : zKeM σ0 σ) : zpc (fX12_does_48 σ x1 s0 s1) (fun r => zKeM σ0 (r)) := by
  unfold fX12_does_48
  exact zpc_ck (zpc_bs (zKeM.wi h (by decide)) (fun σ24 hσ24 => zpc_ck (zpc_bu (w_fX12_by hσ24) (fun σ25 hσ25 => zpc_if (fun _ => w_fX12_does_71 hσ25) (fun _ => w_fX12_does_71 hσ25)))))
theorem w_fX12_does {σ0 : zSt} {σ : zSt} {x1 : Int32} {x2 : Int32} (h : zKeM σ0 σ) : zpc (fX12_does σ x1 x2) (fun r => zKeM σ0 (r)) := by
  unfold fX12_does
  exact zpc_ck (zpc_bv (fun v26 _ => zpc_if (fun _ => w_fX12_does_101 h) (fun _ => zpc_if (fun _ => w_fX12_does_101 h) (fun _ => zpc_if (fun _ => w_fX12_does_48 h) (fun _ => zpc_if (fun _ => w_fX12_does_48 h) (fun _ => w_fX12_does_48 h))))))
theorem w_fX12_blocks_595 {σ0 : zSt} {σ : zSt} (h : zKeM σ0 σ) : zpc (fX12_blocks_595 σ) (fun r => zKeM σ0 (r.1)) := by
  unfold fX12_blocks_595
  exact zpc_some h
theorem w_fX12_blocks_641 {σ0 : zSt} {σ : zSt} (h : zKeM σ0 σ) : zpc (fX12_blocks_641 σ) (fun r => zKeM σ0 (r.1)) := by
  unfold fX12_blocks_641
  exact zpc_some h
theorem w_fX12_blocks_584 {σ0 : zSt} {σ : zSt} {x1 : Int32} {x2 : Int32} {x5 : Int32} (h : zKeM σ0 σ) : zpc (fX12_blocks_584 σ x1 x2 x5) (fun r => zKeM σ0 (r.1)) := by
  unfold fX12_blocks_584
  exact zpc_if (fun _ => w_fX12_blocks_595 h) (fun _ => zpc_if (fun _ => w_fX12_blocks_595 h) (fun _ => zpc_ck (zpc_ck (zpc_bs (zKeM.wi h (by decide)) (fun σ1 hσ1 => zpc_if (fun _ => w_fX12_blocks_641 hσ1) (fun _ => zpc_ck (zpc_ck (zpc_bs (zKeM.wi hσ1 (by decide)) (fun σ2 hσ2 => w_fX12_blocks_641 hσ2)))))))))
theorem w_fX12_blocks_297 {σ0 : zSt} {σ : zSt} {x1 : Int32} {x2 : Int32} {s0 : Int32} (h : zKeM σ0 σ) : zpc (fX12_blocks_297 σ x1 x2 s0) (fun r => zKeM σ0 (r.1)) := by
  unfold fX12_blocks_297
  exact w_fX12_blocks_584 h
theorem w_fX12_blocks_296 {σ0 : zSt} {σ : zSt} {x1 : Int32} {x2 : Int32} (h : zKeM σ0 σ) : zpc (fX12_blocks_296 σ x1 x2) (fun r => zKeM σ0 (r.1)) := by
  unfold fX12_blocks_296
  exact w_fX12_blocks_297 h
theorem w_fX12_blocks_292 {σ0 : zSt} {σ : zSt} {x1 : Int32} {x2 : Int32} (h : zKeM σ0 σ) : zpc (fX12_blocks_292 σ x1 x2) (fun r => zKeM σ0 (r.1)) := by
  unfold fX12_blocks_292
  exact w_fX12_blocks_297 h
theorem w_fX12_blocks_267 {σ0 : zSt} {σ : zSt} {x1 : Int32} {x2 : Int32} {s0 : Int32} {s1 : Int32} (h : zKeM σ0 σ) : zpc (fX12_blocks_267 σ x1 x2 s0 s1) (fun r => zKeM σ0 (r.1)) := by
  unfold fX12_blocks_267
  exact zpc_bu (w_fX12_put h) (fun σ3 hσ3 => zpc_bi (w_fX12_flag hσ3) (fun σ4 v5 hσ4 => zpc_if (fun _ => zpc_if (fun _ => w_fX12_blocks_292 hσ4) (fun _ => zpc_bi (w_fX12_flag hσ4) (fun σ6 v7 hσ6 => zpc_if (fun _ => w_fX12_blocks_292 hσ6) (fun _ => w_fX12_blocks_296 hσ6)))) (fun _ => w_fX12_blocks_296 hσ4)))
theorem w_fX12_blocks_249 {σ0 : zSt} {σ : zSt} {x1 : Int32} {x2 : Int32} {s0 : Int32} {s1 : Int32} (h : zKeM σ0 σ) : zpc (fX12_blocks_249 σ x1 x2 s0 s1) (fun r => zKeM σ0 (r.1)) := by
  unfold fX12_blocks_249
  exact zpc_bu (w_fX12_put h) (fun σ8 hσ8 => zpc_bi (w_fX12_pair hσ8) (fun σ9 v10 hσ9 => zpc_if (fun _ => w_fX12_blocks_267 hσ9) (fun _ => w_fX12_blocks_267 hσ9)))
theorem w_fX12_blocks_234 {σ0 : zSt} {σ : zSt} {x1 : Int32} {x2 : Int32} {s0 : Int32} {s1 : Int32} (h : zKeM σ0 σ) : zpc (fX12_blocks_234 σ x1 x2 s0 s1) (fun r => zKeM σ0 (r.1)) := by
  unfold fX12_blocks_234
  exact zpc_bu (w_fX12_put h) (fun σ11 hσ11 => zpc_if (fun _ => w_fX12_blocks_249 hσ11) (fun _ => w_fX12_blocks_249 hσ11))
theorem w_fX12_blocks_216 {σ0 : zSt} {σ : zSt} {x1 : Int32} {x2 : Int32} {x6 : Int32} {s0 : Int32} {s1 : Int32} (h : zKeM σ0 σ) : zpc (fX12_blocks_216 σ x1 x2 x6 s0 s1) (fun r => zKeM σ0 (r.1)) := by
  unfold fX12_blocks_216
  exact zpc_bu (w_fX12_put h) (fun σ12 hσ12 => zpc_if (fun _ => w_fX12_blocks_234 hσ12) (fun _ => w_fX12_blocks_234 hσ12))
theorem w_fX12_blocks_202 {σ0 : zSt} {σ : zSt} {x1 : Int32} {x2 : Int32} {x6 : Int32} (h : zKeM σ0 σ) : zpc (fX12_blocks_202 σ x1 x2 x6) (fun r => zKeM σ0 (r.1)) := by
  unfold fX12_blocks_202
  exact zpc_if (fun _ => w_fX12_blocks_216 h) (fun _ => w_fX12_blocks_216 h)
theorem w_fX12_blocks_190 {σ0 : zSt} {σ : zSt} {x1 : Int32} {x2 : Int32} {s0 : Int32} {s1 : Int32} (h : zKeM σ0 σ) : zpc (fX12_blocks_190 σ x1 x2 s0 s1) (fun r => zKeM σ0 (r.1)) := by
  unfold fX12_blocks_190
  exact zpc_bv (fun v13 _ => w_fX12_blocks_202 h)
theorem w_fX12_blocks_159 {σ0 : zSt} {σ : zSt} {x1 : Int32} {x2 : Int32} {x6 : Int32} {s0 : Int32} (h : zKeM σ0 σ) : zpc (fX12_blocks_159 σ x1 x2 x6 s0) (fun r => zKeM σ0 (r.1)) := by
  unfold fX12_blocks_159
  exact zpc_bu (w_fX12_by h) (fun σ14 hσ14 => zpc_bu (w_fX12_put hσ14) (fun σ15 hσ15 => zpc_if (fun _ => w_fX12_blocks_190 hσ15) (fun _ => w_fX12_blocks_190 hσ15)))
theorem w_fX12_blocks_111 {σ0 : zSt} {σ : zSt} {x1 : Int32} {x2 : Int32} {x3 : Int32} {x4 : Int32} {s0 : Int32} (h : zKeM σ0 σ) : zpc (fX12_blocks_111 σ x1 x2 x3 x4 s0) (fun r => zKeM σ0 (r.1)) := by
  unfold fX12_blocks_111
  exact zpc_if (fun _ => zpc_ck (zpc_ck (zpc_bs (zKeM.wi h (by decide)) (fun σ17 hσ17 => zpc_ck (zpc_if (fun _ => w_fX12_blocks_159 hσ17) (fun _ => w_fX12_blocks_159 hσ17)))))) (fun _ => zpc_bu (w_fX12_put h) (fun σ16 hσ16 => w_fX12_blocks_202 hσ16))
theorem w_fX12_blocks_74 {σ0 : zSt} {σ : zSt} {x1 : Int32} {x2 : Int32} {x3 : Int32} {x4 : Int32} (h : zKeM σ0 σ) : zpc (fX12_blocks_74 σ x1 x2 x3 x4) (fun r => zKeM σ0 (r.1)) := by
  unfold fX12_blocks_74
  exact zpc_bi (w_fX12_pair h) (fun σ18 v19 hσ18 => zpc_bu (w_fX12_pairTo hσ18) (fun σ20 hσ20 => zpc_if (fun _ => zpc_ck (w_fX12_blocks_111 hσ20)) (fun _ => zpc_ck (w_fX12_blocks_111 hσ20))))
theorem w_fX12_blocks_44 {σ0 : zSt} {σ : zSt} {x1 : Int32} {x2 : Int32} {x3 : Int32} {x4 : Int32} (h : zKeM σ0 σ) : zpc (fX12_blocks_44 σ x1 x2 x3 x4) (fun r => zKeM σ0 (r.1)) := by
  unfold fX12_blocks_44
  exact zpc_bi (w_fX12_pair h) (fun σ21 v22 hσ21 => zpc_bu (w_fX12_pairTo hσ21) (fun σ23 hσ23 => zpc_if (fun _ => zpc_bi (w_fX12_pair hσ23) (fun σ24 v25 hσ24 => zpc_bu (w_fX12_pairTo hσ24) (fun σ26 hσ26 => w_fX12_blocks_74 hσ26))) (fun _ => w_fX12_blocks_74 hσ23)))
theorem w_fX12_blocks_582 {σ0 : zSt} {σ : zSt} {x1 : Int32} {x2 : Int32} {s0 : Int32} (h : zKeM σ0 σ) : zpc (fX12_blocks_582 σ x1 x2 s0) (fun r => zKeM σ0 (r.1)) := by
  unfold fX12_blocks_582
  exact w_fX12_blocks_584 h
theorem w_fX12_blocks_545 {σ0 : zSt} {σ : zSt} {x1 : Int32} {x2 : Int32} {x6 : Int32} {s0 : Int32} {s1 : Int32} (h : zKeM σ0 σ) : zpc (fX12_blocks_545 σ x1 x2 x6 s0 s1) (fun r => zKeM σ0 (r.1)) := by
  unfold fX12_blocks_545
  exact zpc_bu (w_fX12_put h) (fun σ27 hσ27 => zpc_ck (zpc_bi (w_fX12_isEven hσ27) (fun σ28 v29 hσ28 => zpc_bu (w_fX12_put hσ28) (fun σ30 hσ30 => zpc_ck (zpc_if (fun _ => w_fX12_blocks_582 hσ30) (fun _ => w_fX12_blocks_582 hσ30))))))
theorem w_fX12_blocks_527 {σ0 : zSt} {σ : zSt} {x1 : Int32} {x2 : Int32} {x6 : Int32} {s0 : Int32} {s1 : Int32} (h : zKeM σ0 σ) : zpc (fX12_blocks_527 σ x1 x2 x6 s0 s1) (fun r => zKeM σ0 (r.1)) := by
  unfold fX12_blocks_527
  exact zpc_bu (w_fX12_put h) (fun σ31 hσ31 => zpc_if (fun _ => w_fX12_blocks_545 hσ31) (fun _ => w_fX12_blocks_545 hσ31))
theorem w_fX12_blocks_509 {σ0 : zSt} {σ : zSt} {x1 : Int32} {x2 : Int32} {x6 : Int32} {s0 : Int32} {s1 : Int32} (h : zKeM σ0 σ) : zpc (fX12_blocks_509 σ x1 x2 x6 s0 s1) (fun r => zKeM σ0 (r.1)) := by
  unfold fX12_blocks_509
  exact zpc_bu (w_fX12_put h) (fun σ32 hσ32 => zpc_if (fun _ => w_fX12_blocks_527 hσ32) (fun _ => w_fX12_blocks_527 hσ32))
theorem w_fX12_blocks_485 {σ0 : zSt} {σ : zSt} {x1 : Int32} {x2 : Int32} {x4 : Int32} {x6 : Int32} (h : zKeM σ0 σ) : zpc (fX12_blocks_485 σ x1 x2 x4 x6) (fun r => zKeM σ0 (r.1)) := by
  unfold fX12_blocks_485
  exact zpc_ck (zpc_bu (w_fX12_by h) (fun σ33 hσ33 => zpc_if (fun _ => w_fX12_blocks_509 hσ33) (fun _ => w_fX12_blocks_509 hσ33)))
theorem w_fX12_blocks_11 {σ0 : zSt} {σ : zSt} {x1 : Int32} {x2 : Int32} {s0 : Int32} (h : zKeM σ0 σ) : zpc (fX12_blocks_11 σ x1 x2 s0) (fun r => zKeM σ0 (r.1)) := by
  unfold fX12_blocks_11
  exact zpc_if (fun _ => zpc_if (fun _ => zpc_bi (w_fX12_pair h) (fun σ47 v48 hσ47 => zpc_ck (zpc_bs (zKeM.wi hσ47 (by decide)) (fun σ49 hσ49 => zpc_ck (zpc_bi (w_fX12_port hσ49) (fun σ50 v51 hσ50 => zpc_ck (zpc_ck (zpc_bs (zKeM.wi hσ50 (by decide)) (fun σ52 hσ52 => zpc_bi (w_fX12_pair hσ52) (fun σ53 v54 hσ53 => zpc_bu (w_fX12_write hσ53) (fun σ55 hσ55 => zpc_bi (w_fX12_pair hσ55) (fun σ56 v57 hσ56 => zpc_bu (w_fX12_pairTo hσ56) (fun σ58 hσ58 => zpc_ck (zpc_bv (fun v59 _ => w_fX12_blocks_485 hσ58))))))))))))))) (fun _ => zpc_bi (w_fX12_pair h) (fun σ34 v35 hσ34 => zpc_bi (w_fX12_read hσ34) (fun σ36 v37 hσ36 => zpc_ck (zpc_ck (zpc_bs (zKeM.wi hσ36 (by decide)) (fun σ38 hσ38 => zpc_ck (zpc_bu (w_fX12_portTo hσ38) (fun σ39 hσ39 => zpc_bi (w_fX12_pair hσ39) (fun σ40 v41 hσ40 => zpc_bu (w_fX12_pairTo hσ40) (fun σ42 hσ42 => zpc_bi (w_fX12_pair hσ42) (fun σ43 v44 hσ43 => zpc_ck (zpc_bs (zKeM.wi hσ43 (by decide)) (fun σ45 hσ45 => zpc_ck (zpc_bv (fun v46 _ => w_fX12_blocks_485 hσ45)))))))))))))))) (fun _ => zpc_bi (w_fX12_pair h) (fun σ60 v61 hσ60 => zpc_bi (w_fX12_read hσ60) (fun σ62 v63 hσ62 => zpc_if (fun _ => zpc_bi (w_fX12_pair hσ62) (fun σ64 v65 hσ64 => zpc_bu (w_fX12_write hσ64) (fun σ66 hσ66 => w_fX12_blocks_44 hσ66))) (fun _ => w_fX12_blocks_44 hσ62))))
theorem w_fX12_blocks {σ0 : zSt} {σ : zSt} {x1 : Int32} {x2 : Int32} (h : zKeM σ0 σ) : zpc (fX12_blocks σ x1 x2) (fun r => zKeM σ0 (r.1)) := by
  unfold fX12_blocks
  exact zpc_ck (zpc_if (fun _ => w_fX12_blocks_11 h) (fun _ => w_fX12_blocks_11 h))
theorem w_fX12_specials_28 {σ0 : zSt} {σ : zSt} {s0 : Int32} (h : zKeM σ0 σ) : zpc (fX12_specials_28 σ s0) (fun r => zKeM σ0 (r.1)) := by
  unfold fX12_specials_28
  exact zpc_ck (zpc_ck (zpc_bs (zKeM.wi h (by decide)) (fun σ1 hσ1 => zpc_some hσ1)))
theorem w_fX12_specials_244 {σ0 : zSt} {σ : zSt} {s0 : Int32} (h : zKeM σ0 σ) : zpc (fX12_specials_244 σ s0) (fun r => zKeM σ0 (r.1)) := by
  unfold fX12_specials_244
  exact zpc_some h
theorem w_fX12_specials_220 {σ0 : zSt} {σ : zSt} {x1 : Int32} (h : zKeM σ0 σ) : zpc (fX12_specials_220 σ x1) (fun r => zKeM σ0 (r.1)) := by
  unfold fX12_specials_220
  exact zpc_bu (w_fX12_put h) (fun σ2 hσ2 => zpc_bu (w_fX12_put hσ2) (fun σ3 hσ3 => zpc_if (fun _ => w_fX12_specials_244 hσ3) (fun _ => w_fX12_specials_244 hσ3)))
theorem w_fX12_specials_94 {σ0 : zSt} {σ : zSt} {x1 : Int32} {s0 : Int32} {s1 : Int32} (h : zKeM σ0 σ) : zpc (fX12_specials_94 σ x1 s0 s1) (fun r => zKeM σ0 (r.1)) := by
  unfold fX12_specials_94
  exact zpc_bu (w_fX12_put h) (fun σ4 hσ4 => w_fX12_specials_220 hσ4)
theorem w_fX12_specials_64 {σ0 : zSt} {σ : zSt} {x1 : Int32} {s0 : Int32} {s2 : Int32} (h : zKeM σ0 σ) : zpc (fX12_specials_64 σ x1 s0 s2) (fun r => zKeM σ0 (r.1)) := by
  unfold fX12_specials_64
  exact zpc_ck (zpc_ck (zpc_bs (zKeM.wi h (by decide)) (fun σ5 hσ5 => zpc_ck (zpc_bu (w_fX12_by hσ5) (fun σ6 hσ6 => zpc_ck (zpc_if (fun _ => w_fX12_specials_94 hσ6) (fun _ => w_fX12_specials_94 hσ6)))))))
theorem w_fX12_specials_194 {σ0 : zSt} {σ : zSt} {x1 : Int32} {s0 : Int32} {s1 : Int32} {s2 : Int32} (h : zKeM σ0 σ) : zpc (fX12_specials_194 σ x1 s0 s1 s2) (fun r => zKeM σ0 (r.1)) := by
  unfold fX12_specials_194
  exact zpc_ck (zpc_bs (zKeM.wi h (by decide)) (fun σ7 hσ7 => zpc_ck (zpc_bu (w_fX12_by hσ7) (fun σ8 hσ8 => zpc_ck (zpc_bi (w_fX12_isEven hσ8) (fun σ9 v10 hσ9 => zpc_bu (w_fX12_put hσ9) (fun σ11 hσ11 => w_fX12_specials_220 hσ11)))))))
theorem w_fX12_specials_161 {σ0 : zSt} {σ : zSt} {x1 : Int32} {x3 : Int32} {s0 : Int32} {s1 : Int32} (h : zKeM σ0 σ) : zpc (fX12_specials_161 σ x1 x3 s0 s1) (fun r => zKeM σ0 (r.1)) := by
  unfold fX12_specials_161
  exact zpc_bu (w_fX12_write h) (fun σ12 hσ12 => zpc_ck (zpc_if (fun _ => w_fX12_specials_194 hσ12) (fun _ => w_fX12_specials_194 hσ12)))
theorem w_fX12_specials {σ0 : zSt} {σ : zSt} {x1 : Int32} (h : zKeM σ0 σ) : zpc (fX12_specials σ x1) (fun r => zKeM σ0 (r.1)) := by
  unfold fX12_specials
  exact zpc_if (fun _ => zpc_if (fun _ => zpc_if (fun _ => zpc_bi (w_fX12_pair h) (fun σ13 v14 hσ13 => zpc_ck (zpc_bs (zKeM.wi hσ13 (by decide)) (fun σ15 hσ15 => zpc_bi (w_fX12_read hσ15) (fun σ16 v17 hσ16 => zpc_ck (zpc_bv (fun v18 _ => zpc_if (fun _ => w_fX12_specials_161 hσ16) (fun _ => w_fX12_specials_161 hσ16)))))))) (fun _ => zpc_if (fun _ => w_fX12_specials_64 h) (fun _ => w_fX12_specials_64 h))) (fun _ => zpc_if (fun _ => w_fX12_specials_28 h) (fun _ => w_fX12_specials_28 h))) (fun _ => zpc_some h)
theorem w_fX12_words_255 {σ0 : zSt} {σ : zSt} {s0 : Int32} {s1 : Int32} (h : zKeM σ0 σ) : zpc (fX12_words_255 σ s0 s1) (fun r => zKeM σ0 (r)) := by
  unfold fX12_words_255
  exact zpc_bu (w_fX12_put h) (fun σ1 hσ1 => zpc_some hσ1)
theorem w_fX12_words_241 {σ0 : zSt} {σ : zSt} {x2 : Int32} {s0 : Int32} {s1 : Int32} (h : zKeM σ0 σ) : zpc (fX12_words_241 σ x2 s0 s1) (fun r => zKeM σ0 (r)) := by
  unfold fX12_words_241
  exact zpc_bu (w_fX12_put h) (fun σ2 hσ2 => zpc_if (fun _ => w_fX12_words_255 hσ2) (fun _ => w_fX12_words_255 hσ2))
theorem w_fX12_words_236 {σ0 : zSt} {σ : zSt} {x2 : Int32} {s0 : Int32} (h : zKeM σ0 σ) : zpc (fX12_words_236 σ x2 s0) (fun r => zKeM σ0 (r)) := by
  unfold fX12_words_236
  exact w_fX12_words_241 h
theorem w_fX12_words_215 {σ0 : zSt} {σ : zSt} {x2 : Int32} {x7 : Int32} {s0 : Int32} {s1 : Int32} (h : zKeM σ0 σ) : zpc (fX12_words_215 σ x2 x7 s0 s1) (fun r => zKeM σ0 (r)) := by
  unfold fX12_words_215
  exact zpc_bu (w_fX12_put h) (fun σ3 hσ3 => zpc_if (fun _ => w_fX12_words_236 hσ3) (fun _ => zpc_if (fun _ => w_fX12_words_241 hσ3) (fun _ => w_fX12_words_236 hσ3)))
theorem w_fX12_words_210 {σ0 : zSt} {σ : zSt} {x2 : Int32} {x7 : Int32} {s0 : Int32} (h : zKeM σ0 σ) : zpc (fX12_words_210 σ x2 x7 s0) (fun r => zKeM σ0 (r)) := by
  unfold fX12_words_210
  exact w_fX12_words_215 h
theorem w_fX12_words_193 {σ0 : zSt} {σ : zSt} {x2 : Int32} {x6 : Int32} {x7 : Int32} {s0 : Int32} {s1 : Int32} (h : zKeM σ0 σ) : zpc (fX12_words_193 σ x2 x6 x7 s0 s1) (fun r => zKeM σ0 (r)) := by
  unfold fX12_words_193
  exact zpc_bu (w_fX12_put h) (fun σ4 hσ4 => zpc_if (fun _ => w_fX12_words_210 hσ4) (fun _ => zpc_if (fun _ => w_fX12_words_215 hσ4) (fun _ => w_fX12_words_210 hσ4)))
theorem w_fX12_words_123 {σ0 : zSt} {σ : zSt} {x2 : Int32} {x3 : Int32} {x4 : Int32} {x5 : Int32} {x6 : Int32} {x7 : Int32} {s0 : Int32} {s1 : Int32} (h : zKeM σ0 σ) : zpc (fX12_words_123 σ x2 x3 x4 x5 x6 x7 s0 s1) (fun r => zKeM σ0 (r)) := by
  unfold fX12_words_123
  exact zpc_bu (w_fX12_put h) (fun σ5 hσ5 => zpc_bu (w_fX12_xy hσ5) (fun σ6 hσ6 => zpc_if (fun _ => zpc_if (fun _ => w_fX12_words_193 hσ6) (fun _ => w_fX12_words_193 hσ6)) (fun _ => zpc_if (fun _ => w_fX12_words_193 hσ6) (fun _ => w_fX12_words_193 hσ6))))
theorem w_fX12_words_104 {σ0 : zSt} {σ : zSt} {x2 : Int32} {x3 : Int32} {x4 : Int32} {x5 : Int32} {x6 : Int32} {x7 : Int32} {s0 : Int32} {s1 : Int32} (h : zKeM σ0 σ) : zpc (fX12_words_104 σ x2 x3 x4 x5 x6 x7 s0 s1) (fun r => zKeM σ0 (r)) := by
  unfold fX12_words_104
  exact zpc_bu (w_fX12_put h) (fun σ7 hσ7 => zpc_if (fun _ => w_fX12_words_123 hσ7) (fun _ => w_fX12_words_123 hσ7))
theorem w_fX12_words_80 {σ0 : zSt} {σ : zSt} {x2 : Int32} {x3 : Int32} {x4 : Int32} {x5 : Int32} {x6 : Int32} {s0 : Int32} (h : zKeM σ0 σ) : zpc (fX12_words_80 σ x2 x3 x4 x5 x6 s0) (fun r => zKeM σ0 (r)) := by
  unfold fX12_words_80
  exact zpc_bu (w_fX12_hlTo h) (fun σ8 hσ8 => zpc_if (fun _ => w_fX12_words_104 hσ8) (fun _ => w_fX12_words_104 hσ8))
theorem w_fX12_words_53 {σ0 : zSt} {σ : zSt} {x2 : Int32} {x3 : Int32} {x4 : Int32} {x5 : Int32} {s0 : Int32} (h : zKeM σ0 σ) : zpc (fX12_words_53 σ x2 x3 x4 x5 s0) (fun r => zKeM σ0 (r)) := by
  unfold fX12_words_53
  exact zpc_if (fun _ => w_fX12_words_80 h) (fun _ => w_fX12_words_80 h)
theorem w_fX12_words {σ0 : zSt} {σ : zSt} {x1 : Int32} {x2 : Int32} (h : zKeM σ0 σ) : zpc (fX12_words σ x1 x2) (fun r => zKeM σ0 (r)) := by
  unfold fX12_words
  exact zpc_bi (w_fX12_hl h) (fun σ9 v10 hσ9 => zpc_bi (w_fX12_rp hσ9) (fun σ11 v12 hσ11 => zpc_bi (w_fX12_flag hσ11) (fun σ13 v14 hσ13 => zpc_ck (zpc_bs (zKeM.wi hσ13 (by decide)) (fun σ15 hσ15 => zpc_if (fun _ => w_fX12_words_53 hσ15) (fun _ => w_fX12_words_53 hσ15))))))
theorem w_fX12_more_387 {σ0 : zSt} {σ : zSt} {s0 : Int32} {s1 : Int32} (h : zKeM σ0 σ) : zpc (fX12_more_387 σ s0 s1) (fun r => zKeM σ0 (r.1)) := by
  unfold fX12_more_387
  exact zpc_ck (zpc_bs (zKeM.wi h (by decide)) (fun σ1 hσ1 => zpc_some hσ1))
theorem w_fX12_more_281 {σ0 : zSt} {σ : zSt} {x7 : Int32} (h : zKeM σ0 σ) : zpc (fX12_more_281 σ x7) (fun r => zKeM σ0 (r.1)) := by
  unfold fX12_more_281
  exact zpc_ck (zpc_bs (zKeM.wi h (by decide)) (fun σ2 hσ2 => zpc_some hσ2))
theorem w_fX12_more_234 {σ0 : zSt} {σ : zSt} {s0 : Int32} {s1 : Int32} (h : zKeM σ0 σ) : zpc (fX12_more_234 σ s0 s1) (fun r => zKeM σ0 (r.1)) := by
  unfold fX12_more_234
  exact zpc_bu (w_fX12_words h) (fun σ3 hσ3 => zpc_some hσ3)
theorem w_fX12_more_195 {σ0 : zSt} {σ : zSt} {s0 : Int32} {s1 : Int32} (h : zKeM σ0 σ) : zpc (fX12_more_195 σ s0 s1) (fun r => zKeM σ0 (r.1)) := by
  unfold fX12_more_195
  exact zpc_bu (w_fX12_portTo h) (fun σ4 hσ4 => zpc_bi (w_fX12_pair hσ4) (fun σ5 v6 hσ5 => zpc_ck (zpc_bs (zKeM.wi hσ5 (by decide)) (fun σ7 hσ7 => zpc_some hσ7))))
theorem w_fX12_more_133 {σ0 : zSt} {σ : zSt} {x5 : Int32} {x6 : Int32} (h : zKeM σ0 σ) : zpc (fX12_more_133 σ x5 x6) (fun r => zKeM σ0 (r.1)) := by
  unfold fX12_more_133
  exact zpc_bu (w_fX12_by h) (fun σ8 hσ8 => zpc_bi (w_fX12_isEven hσ8) (fun σ9 v10 hσ9 => zpc_bu (w_fX12_put hσ9) (fun σ11 hσ11 => zpc_bu (w_fX12_put hσ11) (fun σ12 hσ12 => zpc_bu (w_fX12_put hσ12) (fun σ13 hσ13 => zpc_ck (zpc_bs (zKeM.wi hσ13 (by decide)) (fun σ14 hσ14 => zpc_some hσ14)))))))
theorem w_fX12_more_42 {σ0 : zSt} {σ : zSt} {x2 : Int32} {x3 : Int32} {x4 : Int32} (h : zKeM σ0 σ) : zpc (fX12_more_42 σ x2 x3 x4) (fun r => zKeM σ0 (r.1)) := by
  unfold fX12_more_42
  exact zpc_if (fun _ => zpc_if (fun _ => zpc_bi (w_fX12_pair h) (fun σ15 v16 hσ15 => zpc_bv (fun v17 _ => zpc_ck (zpc_bi (w_fX12_port hσ15) (fun σ18 v19 hσ18 => zpc_if (fun _ => w_fX12_more_133 hσ18) (fun _ => zpc_bu (w_fX12_rTo hσ18) (fun σ20 hσ20 => w_fX12_more_133 hσ20))))))) (fun _ => zpc_if (fun _ => zpc_ck (zpc_if (fun _ => w_fX12_more_195 h) (fun _ => zpc_bi (w_fX12_r h) (fun σ21 v22 hσ21 => w_fX12_more_195 hσ21)))) (fun _ => zpc_if (fun _ => zpc_ck (zpc_if (fun _ => w_fX12_more_234 h) (fun _ => w_fX12_more_234 h))) (fun _ => zpc_if (fun _ => zpc_bi (w_fX12_nextWord h) (fun σ23 v24 hσ23 => zpc_ck (zpc_if (fun _ => zpc_bi (w_fX12_rp hσ23) (fun σ28 v29 hσ28 => zpc_bu (w_fX12_wordTo hσ28) (fun σ30 hσ30 => w_fX12_more_281 hσ30))) (fun _ => zpc_bi (w_fX12_word hσ23) (fun σ25 v26 hσ25 => zpc_bu (w_fX12_rpTo hσ25) (fun σ27 hσ27 => w_fX12_more_281 hσ27)))))) (fun _ => zpc_if (fun _ => zpc_ck (zpc_bv (fun v31 _ => zpc_ck (zpc_bs (zKeM.wi h (by decide)) (fun σ32 hσ32 => zpc_bu (w_fX12_does hσ32) (fun σ33 hσ33 => zpc_some hσ33)))))) (fun _ => zpc_if (fun _ => zpc_bi (w_fX12_pop h) (fun σ34 v35 hσ34 => zpc_ck (zpc_bs (zKeM.wi hσ34 (by decide)) (fun σ36 hσ36 => zpc_ck (zpc_ck (zpc_bs (zKeM.wi hσ36 (by decide)) (fun σ37 hσ37 => zpc_ck (zpc_ck (zpc_bs (zKeM.wi hσ37 (by decide)) (fun σ38 hσ38 => zpc_some hσ38)))))))))) (fun _ => zpc_if (fun _ => zpc_ck (zpc_if (fun _ => zpc_ck (w_fX12_more_387 h)) (fun _ => w_fX12_more_387 h))) (fun _ => zpc_bi (w_fX12_specials h) (fun σ39 v40 hσ39 => zpc_some hσ39))))))))) (fun _ => zpc_some h)
theorem w_fX12_more {σ0 : zSt} {σ : zSt} {x1 : Int32} (h : zKeM σ0 σ) : zpc (fX12_more σ x1) (fun r => zKeM σ0 (r.1)) := by
  unfold fX12_more
  exact zpc_bv (fun v41 _ => zpc_bv (fun v42 _ => zpc_bv (fun v43 _ => zpc_if (fun _ => zpc_if (fun _ => w_fX12_more_42 h) (fun _ => zpc_if (fun _ => w_fX12_more_42 h) (fun _ => zpc_bi (w_fX12_blocks h) (fun σ44 v45 hσ44 => zpc_some hσ44)))) (fun _ => w_fX12_more_42 h))))
theorem w_fX12_prefixed_r1_33 {σ0 : zSt} {σ : zSt} (h : zKeM σ0 σ) : zpc (fX12_prefixed_r1_33 σ) (fun r => zKeM σ0 (r.1)) := by
  unfold fX12_prefixed_r1_33
  exact zpc_ck (zpc_bs (zKeM.wi h (by decide)) (fun σ1 hσ1 => zpc_some hσ1))
theorem w_fX12_prefixed_r1_154 {σ0 : zSt} {σ : zSt} {s0 : Int32} (h : zKeM σ0 σ) : zpc (fX12_prefixed_r1_154 σ s0) (fun r => zKeM σ0 (r.1)) := by
  unfold fX12_prefixed_r1_154
  exact zpc_some h
theorem w_fX12_prefixed_r1_135 {σ0 : zSt} {σ : zSt} {x4 : Int32} {x5 : Int32} (h : zKeM σ0 σ) : zpc (fX12_prefixed_r1_135 σ x4 x5) (fun r => zKeM σ0 (r.1)) := by
  unfold fX12_prefixed_r1_135
  exact zpc_if (fun _ => w_fX12_prefixed_r1_154 h) (fun _ => w_fX12_prefixed_r1_154 h)
theorem w_fX12_prefixed_r1_244 {σ0 : zSt} {σ : zSt} {x1 : Int32} {x3 : Int32} {s0 : Int32} (h : zKeM σ0 σ) : zpc (fX12_prefixed_r1_244 σ x1 x3 s0) (fun r => zKeM σ0 (r.1)) := by
  unfold fX12_prefixed_r1_244
  exact zpc_if (fun _ => zpc_bs (zKeM.w0 h (by decide)) (fun σ8 hσ8 => zpc_none)) (fun _ => zpc_ck (zpc_bi (w_fX12_next h) (fun σ2 v3 hσ2 => zpc_bi (w_fX12_signed hσ2) (fun σ4 v5 hσ4 => zpc_ck (zpc_bs (zKeM.wi hσ4 (by decide)) (fun σ6 hσ6 => zpc_ck (zpc_bs (zKeM.w0 hσ6 (by decide)) (fun σ7 hσ7 => zpc_none))))))))
theorem w_fX12_prefixed_r1_243 {σ0 : zSt} {σ : zSt} {x1 : Int32} {x3 : Int32} (h : zKeM σ0 σ) : zpc (fX12_prefixed_r1_243 σ x1 x3) (fun r => zKeM σ0 (r.1)) := by
  unfold fX12_prefixed_r1_243
  exact w_fX12_prefixed_r1_244 h
theorem w_fX12_prefixed_r1_239 {σ0 : zSt} {σ : zSt} {x1 : Int32} {x3 : Int32} (h : zKeM σ0 σ) : zpc (fX12_prefixed_r1_239 σ x1 x3) (fun r => zKeM σ0 (r.1)) := by
  unfold fX12_prefixed_r1_239
  exact w_fX12_prefixed_r1_244 h
theorem w_fX12_prefixed_r1_226 {σ0 : zSt} {σ : zSt} {x1 : Int32} {x3 : Int32} {x5 : Int32} {x6 : Int32} (h : zKeM σ0 σ) : zpc (fX12_prefixed_r1_226 σ x1 x3 x5 x6) (fun r => zKeM σ0 (r.1)) := by
  unfold fX12_prefixed_r1_226
  exact zpc_if (fun _ => zpc_if (fun _ => w_fX12_prefixed_r1_239 h) (fun _ => w_fX12_prefixed_r1_243 h)) (fun _ => w_fX12_prefixed_r1_243 h)
theorem w_fX12_prefixed_r1_220 {σ0 : zSt} {σ : zSt} {x1 : Int32} {x3 : Int32} {x5 : Int32} {x6 : Int32} (h : zKeM σ0 σ) : zpc (fX12_prefixed_r1_220 σ x1 x3 x5 x6) (fun r => zKeM σ0 (r.1)) := by
  unfold fX12_prefixed_r1_220
  exact zpc_if (fun _ => w_fX12_prefixed_r1_226 h) (fun _ => w_fX12_prefixed_r1_239 h)
theorem w_fX12_prefixed_r1_200 {σ0 : zSt} {σ : zSt} {x1 : Int32} {x3 : Int32} {x4 : Int32} {x5 : Int32} {x6 : Int32} (h : zKeM σ0 σ) : zpc (fX12_prefixed_r1_200 σ x1 x3 x4 x5 x6) (fun r => zKeM σ0 (r.1)) := by
  unfold fX12_prefixed_r1_200
  exact zpc_if (fun _ => zpc_if (fun _ => w_fX12_prefixed_r1_220 h) (fun _ => zpc_if (fun _ => w_fX12_prefixed_r1_220 h) (fun _ => w_fX12_prefixed_r1_226 h))) (fun _ => w_fX12_prefixed_r1_226 h)
theorem w_fX12_prefixed_r1 {σ0 : zSt} {σ : zSt} {x1 : Int32} (h : zKeM σ0 σ) : zpc (fX12_prefixed_r1 σ x1) (fun r => zKeM σ0 (r.1)) := by
  unfold fX12_prefixed_r1
  exact zpc_ck (zpc_bi (w_fX12_read h) (fun σ9 v10 hσ9 => zpc_if (fun _ => w_fX12_prefixed_r1_33 hσ9) (fun _ => zpc_if (fun _ => w_fX12_prefixed_r1_33 hσ9) (fun _ => zpc_if (fun _ => w_fX12_prefixed_r1_33 hσ9) (fun _ => zpc_bi (w_fX12_fetch hσ9) (fun σ11 v12 hσ11 => zpc_if (fun _ => zpc_ck (zpc_bi (w_fX12_next hσ11) (fun σ16 v17 hσ16 => zpc_bi (w_fX12_signed hσ16) (fun σ18 v19 hσ18 => zpc_ck (zpc_bs (zKeM.wi hσ18 (by decide)) (fun σ20 hσ20 => zpc_ck (zpc_bs (zKeM.w0 hσ20 (by decide)) (fun σ21 hσ21 => zpc_bi (w_fX12_next hσ21) (fun σ22 v23 hσ22 => zpc_bi (w_fX12_turn hσ22) (fun σ24 v25 hσ24 => zpc_if (fun _ => w_fX12_prefixed_r1_135 hσ24) (fun _ => zpc_if (fun _ => w_fX12_prefixed_r1_135 hσ24) (fun _ => zpc_ck (zpc_bs (zKeM.w0 hσ24 (by decide)) (fun σ26 hσ26 => zpc_bu (w_fX12_rTo hσ26) (fun σ27 hσ27 => w_fX12_prefixed_r1_135 hσ27))))))))))))))) (fun _ => zpc_bv (fun v13 _ => zpc_bv (fun v14 _ => zpc_bv (fun v15 _ => zpc_if (fun _ => zpc_if (fun _ => w_fX12_prefixed_r1_200 hσ11) (fun _ => zpc_if (fun _ => w_fX12_prefixed_r1_200 hσ11) (fun _ => zpc_if (fun _ => w_fX12_prefixed_r1_239 hσ11) (fun _ => w_fX12_prefixed_r1_200 hσ11)))) (fun _ => w_fX12_prefixed_r1_200 hσ11)))))))))))
theorem w_fX12_more3_r1_119 {σ0 : zSt} {σ : zSt} {s0 : Int32} (h : zKeM σ0 σ) : zpc (fX12_more3_r1_119 σ s0) (fun r => zKeM σ0 (r.1)) := by
  unfold fX12_more3_r1_119
  exact zpc_bu (w_fX12_push h) (fun σ1 hσ1 => zpc_some hσ1)
theorem w_fX12_more3_r1_200 {σ0 : zSt} {σ : zSt} {s0 : Int32} (h : zKeM σ0 σ) : zpc (fX12_more3_r1_200 σ s0) (fun r => zKeM σ0 (r.1)) := by
  unfold fX12_more3_r1_200
  exact zpc_some h
theorem w_fX12_more3_r1_197 {σ0 : zSt} {σ : zSt} {s0 : Int32} (h : zKeM σ0 σ) : zpc (fX12_more3_r1_197 σ s0) (fun r => zKeM σ0 (r.1)) := by
  unfold fX12_more3_r1_197
  exact zpc_bi (w_fX12_prefixed_r1 h) (fun σ2 v3 hσ2 => w_fX12_more3_r1_200 hσ2)
theorem w_fX12_more3_r1 {σ0 : zSt} {σ : zSt} {x1 : Int32} {x2 : Int32} (h : zKeM σ0 σ) : zpc (fX12_more3_r1 σ x1 x2) (fun r => zKeM σ0 (r.1)) := by
  unfold fX12_more3_r1
  exact zpc_bv (fun v4 _ => zpc_if (fun _ => zpc_bi (w_fX12_nextWord h) (fun σ22 v23 hσ22 => zpc_ck (zpc_bs (zKeM.wi hσ22 (by decide)) (fun σ24 hσ24 => zpc_bi (w_fX12_cc hσ24) (fun σ25 v26 hσ25 => zpc_if (fun _ => zpc_some hσ25) (fun _ => zpc_ck (zpc_bu (w_fX12_push hσ25) (fun σ27 hσ27 => zpc_ck (zpc_ck (zpc_bs (zKeM.wi hσ27 (by decide)) (fun σ28 hσ28 => zpc_some hσ28))))))))))) (fun _ => zpc_if (fun _ => zpc_bi (w_fX12_next h) (fun σ19 v20 hσ19 => zpc_bu (w_fX12_does hσ19) (fun σ21 hσ21 => zpc_some hσ21))) (fun _ => zpc_if (fun _ => zpc_bu (w_fX12_call h) (fun σ18 hσ18 => zpc_some hσ18)) (fun _ => zpc_ck (zpc_if (fun _ => zpc_if (fun _ => zpc_bi (w_fX12_pair h) (fun σ16 v17 hσ16 => w_fX12_more3_r1_119 hσ16)) (fun _ => zpc_bi (w_fX12_rp h) (fun σ14 v15 hσ14 => w_fX12_more3_r1_119 hσ14))) (fun _ => zpc_if (fun _ => zpc_bi (w_fX12_nextWord h) (fun σ9 v10 hσ9 => zpc_ck (zpc_bs (zKeM.wi hσ9 (by decide)) (fun σ11 hσ11 => zpc_ck (zpc_bu (w_fX12_push hσ11) (fun σ12 hσ12 => zpc_ck (zpc_ck (zpc_bs (zKeM.wi hσ12 (by decide)) (fun σ13 hσ13 => zpc_some hσ13))))))))) (fun _ => zpc_if (fun _ => zpc_bi (w_fX12_fetch h) (fun σ5 v6 hσ5 => zpc_bi (w_fX12_more hσ5) (fun σ7 v8 hσ7 => w_fX12_more3_r1_200 hσ7))) (fun _ => zpc_if (fun _ => w_fX12_more3_r1_197 h) (fun _ => w_fX12_more3_r1_197 h)))))))))
theorem w_fX12_jump {σ0 : zSt} {σ : zSt} {x1 : Int32} (h : zKeM σ0 σ) : zpc (fX12_jump σ x1) (fun r => zKeM σ0 (r)) := by
  unfold fX12_jump
  exact zpc_ck (zpc_ck (zpc_bs (zKeM.wi h (by decide)) (fun σ1 hσ1 => zpc_ck (zpc_ck (zpc_bs (zKeM.wi hσ1 (by decide)) (fun σ2 hσ2 => zpc_some hσ2))))))
theorem w_fX12_moves_85 {σ0 : zSt} {σ : zSt} (h : zKeM σ0 σ) : zpc (fX12_moves_85 σ) (fun r => zKeM σ0 (r.1)) := by
  unfold fX12_moves_85
  exact zpc_some h
theorem w_fX12_moves_15 {σ0 : zSt} {σ : zSt} {x2 : Int32} {s0 : Int32} (h : zKeM σ0 σ) : zpc (fX12_moves_15 σ x2 s0) (fun r => zKeM σ0 (r.1)) := by
  unfold fX12_moves_15
  exact zpc_bi (w_fX12_pair h) (fun σ1 v2 hσ1 => zpc_if (fun _ => zpc_ck (zpc_bu (w_fX12_write hσ1) (fun σ3 hσ3 => zpc_ck (zpc_ck (zpc_bs (zKeM.wi hσ3 (by decide)) (fun σ4 hσ4 => w_fX12_moves_85 hσ4)))))) (fun _ => zpc_bi (w_fX12_read hσ1) (fun σ5 v6 hσ5 => zpc_ck (zpc_bs (zKeM.wi hσ5 (by decide)) (fun σ7 hσ7 => zpc_ck (zpc_bs (zKeM.wi hσ7 (by decide)) (fun σ8 hσ8 => w_fX12_moves_85 hσ8)))))))
theorem w_fX12_moves_214 {σ0 : zSt} {σ : zSt} {s0 : Int32} (h : zKeM σ0 σ) : zpc (fX12_moves_214 σ s0) (fun r => zKeM σ0 (r.1)) := by
  unfold fX12_moves_214
  exact zpc_some h
theorem w_fX12_moves_201 {σ0 : zSt} {σ : zSt} {x1 : Int32} {s0 : Int32} {s1 : Int32} (h : zKeM σ0 σ) : zpc (fX12_moves_201 σ x1 s0 s1) (fun r => zKeM σ0 (r.1)) := by
  unfold fX12_moves_201
  exact zpc_ck (zpc_bs (zKeM.wi h (by decide)) (fun σ9 hσ9 => zpc_if (fun _ => w_fX12_moves_214 hσ9) (fun _ => w_fX12_moves_214 hσ9)))
theorem w_fX12_moves_195 {σ0 : zSt} {σ : zSt} {x1 : Int32} {x3 : Int32} {s0 : Int32} (h : zKeM σ0 σ) : zpc (fX12_moves_195 σ x1 x3 s0) (fun r => zKeM σ0 (r.1)) := by
  unfold fX12_moves_195
  exact w_fX12_moves_201 h
theorem w_fX12_moves_160 {σ0 : zSt} {σ : zSt} {x1 : Int32} {x2 : Int32} {x3 : Int32} (h : zKeM σ0 σ) : zpc (fX12_moves_160 σ x1 x2 x3) (fun r => zKeM σ0 (r.1)) := by
  unfold fX12_moves_160
  exact zpc_if (fun _ => zpc_if (fun _ => zpc_ck (w_fX12_moves_201 h)) (fun _ => w_fX12_moves_195 h)) (fun _ => w_fX12_moves_195 h)
theorem w_fX12_moves_114 {σ0 : zSt} {σ : zSt} {x1 : Int32} {x2 : Int32} {x3 : Int32} (h : zKeM σ0 σ) : zpc (fX12_moves_114 σ x1 x2 x3) (fun r => zKeM σ0 (r.1)) := by
  unfold fX12_moves_114
  exact zpc_if (fun _ => zpc_bi (w_fX12_hl h) (fun σ14 v15 hσ14 => zpc_bu (w_fX12_wordTo hσ14) (fun σ16 hσ16 => w_fX12_moves_160 hσ16))) (fun _ => zpc_if (fun _ => zpc_ck (zpc_bu (w_fX12_write h) (fun σ10 hσ10 => w_fX12_moves_160 hσ10))) (fun _ => zpc_bi (w_fX12_read h) (fun σ11 v12 hσ11 => zpc_ck (zpc_bs (zKeM.wi hσ11 (by decide)) (fun σ13 hσ13 => w_fX12_moves_160 hσ13)))))
theorem w_fX12_moves {σ0 : zSt} {σ : zSt} {x1 : Int32} {x2 : Int32} (h : zKeM σ0 σ) : zpc (fX12_moves σ x1 x2) (fun r => zKeM σ0 (r.1)) := by
  unfold fX12_moves
  exact zpc_if (fun _ => zpc_bi (w_fX12_nextWord h) (fun σ17 v18 hσ17 => zpc_if (fun _ => zpc_if (fun _ => w_fX12_moves_114 hσ17) (fun _ => zpc_bi (w_fX12_word hσ17) (fun σ19 v20 hσ19 => zpc_bu (w_fX12_hlTo hσ19) (fun σ21 hσ21 => w_fX12_moves_160 hσ21)))) (fun _ => w_fX12_moves_114 hσ17))) (fun _ => zpc_if (fun _ => w_fX12_moves_15 h) (fun _ => w_fX12_moves_15 h))
theorem w_fX12_zero_154 {σ0 : zSt} {σ : zSt} {s0 : Int32} (h : zKeM σ0 σ) : zpc (fX12_zero_154 σ s0) (fun r => zKeM σ0 (r.1)) := by
  unfold fX12_zero_154
  exact zpc_some h
theorem w_fX12_zero_122 {σ0 : zSt} {σ : zSt} {x1 : Int32} {x5 : Int32} (h : zKeM σ0 σ) : zpc (fX12_zero_122 σ x1 x5) (fun r => zKeM σ0 (r.1)) := by
  unfold fX12_zero_122
  exact zpc_if (fun _ => zpc_if (fun _ => w_fX12_zero_154 h) (fun _ => w_fX12_zero_154 h)) (fun _ => zpc_if (fun _ => w_fX12_zero_154 h) (fun _ => w_fX12_zero_154 h))
theorem w_fX12_zero_109 {σ0 : zSt} {σ : zSt} {x1 : Int32} {x4 : Int32} {s0 : Int32} (h : zKeM σ0 σ) : zpc (fX12_zero_109 σ x1 x4 s0) (fun r => zKeM σ0 (r.1)) := by
  unfold fX12_zero_109
  exact zpc_if (fun _ => w_fX12_zero_122 h) (fun _ => zpc_bu (w_fX12_jump h) (fun σ1 hσ1 => w_fX12_zero_122 hσ1))
theorem w_fX12_zero_104 {σ0 : zSt} {σ : zSt} {x1 : Int32} {x4 : Int32} (h : zKeM σ0 σ) : zpc (fX12_zero_104 σ x1 x4) (fun r => zKeM σ0 (r.1)) := by
  unfold fX12_zero_104
  exact w_fX12_zero_109 h
theorem w_fX12_zero_67 {σ0 : zSt} {σ : zSt} {x1 : Int32} {x4 : Int32} (h : zKeM σ0 σ) : zpc (fX12_zero_67 σ x1 x4) (fun r => zKeM σ0 (r.1)) := by
  unfold fX12_zero_67
  exact zpc_if (fun _ => zpc_ck (zpc_if (fun _ => w_fX12_zero_109 h) (fun _ => w_fX12_zero_109 h))) (fun _ => zpc_if (fun _ => w_fX12_zero_104 h) (fun _ => zpc_bi (w_fX12_cc h) (fun σ2 v3 hσ2 => zpc_if (fun _ => w_fX12_zero_109 hσ2) (fun _ => w_fX12_zero_104 hσ2))))
theorem w_fX12_zero_266 {σ0 : zSt} {σ : zSt} {x6 : Int32} {s0 : Int32} {s1 : Int32} (h : zKeM σ0 σ) : zpc (fX12_zero_266 σ x6 s0 s1) (fun r => zKeM σ0 (r.1)) := by
  unfold fX12_zero_266
  exact zpc_bu (w_fX12_put h) (fun σ4 hσ4 => zpc_bu (w_fX12_put hσ4) (fun σ5 hσ5 => zpc_bu (w_fX12_xy hσ5) (fun σ6 hσ6 => zpc_some hσ6)))
theorem w_fX12_zero_249 {σ0 : zSt} {σ : zSt} {x6 : Int32} {s0 : Int32} {s1 : Int32} (h : zKeM σ0 σ) : zpc (fX12_zero_249 σ x6 s0 s1) (fun r => zKeM σ0 (r.1)) := by
  unfold fX12_zero_249
  exact zpc_bu (w_fX12_put h) (fun σ7 hσ7 => zpc_if (fun _ => w_fX12_zero_266 hσ7) (fun _ => w_fX12_zero_266 hσ7))
theorem w_fX12_zero_306 {σ0 : zSt} {σ : zSt} {s0 : Int32} {s1 : Int32} (h : zKeM σ0 σ) : zpc (fX12_zero_306 σ s0 s1) (fun r => zKeM σ0 (r.1)) := by
  unfold fX12_zero_306
  exact zpc_bi (w_fX12_moves h) (fun σ8 v9 hσ8 => zpc_some hσ8)
theorem w_fX12_zero_328 {σ0 : zSt} {σ : zSt} {s0 : Int32} {s1 : Int32} {s2 : Int32} (h : zKeM σ0 σ) : zpc (fX12_zero_328 σ s0 s1 s2) (fun r => zKeM σ0 (r.1)) := by
  unfold fX12_zero_328
  exact zpc_bu (w_fX12_rpTo h) (fun σ10 hσ10 => zpc_some hσ10)
theorem w_fX12_zero_178 {σ0 : zSt} {σ : zSt} {x1 : Int32} {x2 : Int32} {x3 : Int32} (h : zKeM σ0 σ) : zpc (fX12_zero_178 σ x1 x2 x3) (fun r => zKeM σ0 (r.1)) := by
  unfold fX12_zero_178
  exact zpc_if (fun _ => zpc_bi (w_fX12_hl h) (fun σ13 v14 hσ13 => zpc_bi (w_fX12_rp hσ13) (fun σ15 v16 hσ15 => zpc_ck (zpc_bs (zKeM.wi hσ15 (by decide)) (fun σ17 hσ17 => zpc_bv (fun v18 _ => zpc_bu (w_fX12_hlTo hσ17) (fun σ19 hσ19 => zpc_if (fun _ => w_fX12_zero_249 hσ19) (fun _ => w_fX12_zero_249 hσ19)))))))) (fun _ => zpc_if (fun _ => zpc_ck (zpc_if (fun _ => w_fX12_zero_306 h) (fun _ => w_fX12_zero_306 h))) (fun _ => zpc_bi (w_fX12_rp h) (fun σ11 v12 hσ11 => zpc_ck (zpc_if (fun _ => w_fX12_zero_328 hσ11) (fun _ => w_fX12_zero_328 hσ11)))))
theorem w_fX12_zero {σ0 : zSt} {σ : zSt} {x1 : Int32} {x2 : Int32} (h : zKeM σ0 σ) : zpc (fX12_zero σ x1 x2) (fun r => zKeM σ0 (r.1)) := by
  unfold fX12_zero
  exact zpc_bv (fun v20 _ => zpc_if (fun _ => zpc_if (fun _ => zpc_some h) (fun _ => zpc_if (fun _ => zpc_bu (w_fX12_change h) (fun σ29 hσ29 => zpc_bu (w_fX12_change hσ29) (fun σ30 hσ30 => zpc_some hσ30))) (fun _ => zpc_bi (w_fX12_next h) (fun σ24 v25 hσ24 => zpc_bi (w_fX12_signed hσ24) (fun σ26 v27 hσ26 => zpc_if (fun _ => zpc_ck (zpc_ck (zpc_bs (zKeM.wi hσ26 (by decide)) (fun σ28 hσ28 => w_fX12_zero_67 hσ28)))) (fun _ => w_fX12_zero_67 hσ26)))))) (fun _ => zpc_if (fun _ => zpc_ck (zpc_if (fun _ => zpc_bi (w_fX12_nextWord h) (fun σ21 v22 hσ21 => zpc_bu (w_fX12_rpTo hσ21) (fun σ23 hσ23 => zpc_some hσ23))) (fun _ => w_fX12_zero_178 h))) (fun _ => w_fX12_zero_178 h)))
theorem w_fX12_adjusts_130 {σ0 : zSt} {σ : zSt} {s0 : Int32} {s1 : Int32} (h : zKeM σ0 σ) : zpc (fX12_adjusts_130 σ s0 s1) (fun r => zKeM σ0 (r)) := by
  unfold fX12_adjusts_130
  exact zpc_ck (zpc_bs (zKeM.wi h (by decide)) (fun σ1 hσ1 => zpc_ck (zpc_bu (w_fX12_by hσ1) (fun σ2 hσ2 => zpc_ck (zpc_bi (w_fX12_isEven hσ2) (fun σ3 v4 hσ3 => zpc_bu (w_fX12_put hσ3) (fun σ5 hσ5 => zpc_some hσ5)))))))
theorem w_fX12_adjusts_105 {σ0 : zSt} {σ : zSt} {x1 : Int32} {x2 : Int32} {s0 : Int32} {s1 : Int32} (h : zKeM σ0 σ) : zpc (fX12_adjusts_105 σ x1 x2 s0 s1) (fun r => zKeM σ0 (r)) := by
  unfold fX12_adjusts_105
  exact zpc_bu (w_fX12_put h) (fun σ6 hσ6 => zpc_bi (w_fX12_flag hσ6) (fun σ7 v8 hσ7 => zpc_if (fun _ => w_fX12_adjusts_130 hσ7) (fun _ => w_fX12_adjusts_130 hσ7)))
theorem w_fX12_adjusts_104 {σ0 : zSt} {σ : zSt} {x1 : Int32} {x2 : Int32} {s0 : Int32} (h : zKeM σ0 σ) : zpc (fX12_adjusts_104 σ x1 x2 s0) (fun r => zKeM σ0 (r)) := by
  unfold fX12_adjusts_104
  exact w_fX12_adjusts_105 h
theorem w_fX12_adjusts_55 {σ0 : zSt} {σ : zSt} {x1 : Int32} {x2 : Int32} (h : zKeM σ0 σ) : zpc (fX12_adjusts_55 σ x1 x2) (fun r => zKeM σ0 (r)) := by
  unfold fX12_adjusts_55
  exact zpc_bi (w_fX12_flag h) (fun σ9 v10 hσ9 => zpc_if (fun _ => zpc_if (fun _ => w_fX12_adjusts_105 hσ9) (fun _ => w_fX12_adjusts_105 hσ9)) (fun _ => zpc_bi (w_fX12_flag hσ9) (fun σ11 v12 hσ11 => zpc_if (fun _ => zpc_if (fun _ => w_fX12_adjusts_104 hσ11) (fun _ => w_fX12_adjusts_105 hσ11)) (fun _ => w_fX12_adjusts_104 hσ11))))
theorem w_fX12_adjusts_46 {σ0 : zSt} {σ : zSt} {x1 : Int32} {x2 : Int32} (h : zKeM σ0 σ) : zpc (fX12_adjusts_46 σ x1 x2) (fun r => zKeM σ0 (r)) := by
  unfold fX12_adjusts_46
  exact zpc_bv (fun v13 _ => zpc_bu (w_fX12_put h) (fun σ14 hσ14 => w_fX12_adjusts_55 hσ14))
theorem w_fX12_adjusts_30 {σ0 : zSt} {σ : zSt} {x1 : Int32} {x2 : Int32} (h : zKeM σ0 σ) : zpc (fX12_adjusts_30 σ x1 x2) (fun r => zKeM σ0 (r)) := by
  unfold fX12_adjusts_30
  exact zpc_if (fun _ => w_fX12_adjusts_46 h) (fun _ => zpc_bi (w_fX12_flag h) (fun σ15 v16 hσ15 => zpc_if (fun _ => w_fX12_adjusts_46 hσ15) (fun _ => w_fX12_adjusts_55 hσ15)))
theorem w_fX12_adjusts_27 {σ0 : zSt} {σ : zSt} {x1 : Int32} {x2 : Int32} (h : zKeM σ0 σ) : zpc (fX12_adjusts_27 σ x1 x2) (fun r => zKeM σ0 (r)) := by
  unfold fX12_adjusts_27
  exact zpc_bv (fun v17 _ => w_fX12_adjusts_30 h)
theorem w_fX12_adjusts {σ0 : zSt} {σ : zSt} (h : zKeM σ0 σ) : zpc (fX12_adjusts σ) (fun r => zKeM σ0 (r)) := by
  unfold fX12_adjusts
  exact zpc_ck (zpc_bv (fun v18 _ => zpc_if (fun _ => w_fX12_adjusts_27 h) (fun _ => zpc_bi (w_fX12_flag h) (fun σ19 v20 hσ19 => zpc_if (fun _ => w_fX12_adjusts_27 hσ19) (fun _ => w_fX12_adjusts_30 hσ19)))))
theorem w_fX12_singles_28 {σ0 : zSt} {σ : zSt} {s0 : Int32} (h : zKeM σ0 σ) : zpc (fX12_singles_28 σ s0) (fun r => zKeM σ0 (r.1)) := by
  unfold fX12_singles_28
  exact zpc_some h
theorem w_fX12_singles_149 {σ0 : zSt} {σ : zSt} {s0 : Int32} (h : zKeM σ0 σ) : zpc (fX12_singles_149 σ s0) (fun r => zKeM σ0 (r.1)) := by
  unfold fX12_singles_149
  exact zpc_some h
theorem w_fX12_singles_134 {σ0 : zSt} {σ : zSt} {x1 : Int32} {s0 : Int32} {s1 : Int32} (h : zKeM σ0 σ) : zpc (fX12_singles_134 σ x1 s0 s1) (fun r => zKeM σ0 (r.1)) := by
  unfold fX12_singles_134
  exact zpc_bu (w_fX12_put h) (fun σ1 hσ1 => zpc_if (fun _ => w_fX12_singles_149 hσ1) (fun _ => w_fX12_singles_149 hσ1))
theorem w_fX12_singles_119 {σ0 : zSt} {σ : zSt} {x1 : Int32} {x2 : Int32} {s0 : Int32} {s1 : Int32} (h : zKeM σ0 σ) : zpc (fX12_singles_119 σ x1 x2 s0 s1) (fun r => zKeM σ0 (r.1)) := by
  unfold fX12_singles_119
  exact zpc_bu (w_fX12_put h) (fun σ2 hσ2 => zpc_if (fun _ => w_fX12_singles_134 hσ2) (fun _ => w_fX12_singles_134 hσ2))
theorem w_fX12_singles_111 {σ0 : zSt} {σ : zSt} {x1 : Int32} {x2 : Int32} {s0 : Int32} {s1 : Int32} {s2 : Int32} (h : zKeM σ0 σ) : zpc (fX12_singles_111 σ x1 x2 s0 s1 s2) (fun r => zKeM σ0 (r.1)) := by
  unfold fX12_singles_111
  exact zpc_if (fun _ => w_fX12_singles_119 h) (fun _ => w_fX12_singles_119 h)
theorem w_fX12_singles_92 {σ0 : zSt} {σ : zSt} {x1 : Int32} {x2 : Int32} {x3 : Int32} {s0 : Int32} {s1 : Int32} (h : zKeM σ0 σ) : zpc (fX12_singles_92 σ x1 x2 x3 s0 s1) (fun r => zKeM σ0 (r.1)) := by
  unfold fX12_singles_92
  exact zpc_bu (w_fX12_put h) (fun σ3 hσ3 => zpc_if (fun _ => w_fX12_singles_111 hσ3) (fun _ => w_fX12_singles_111 hσ3))
theorem w_fX12_singles_84 {σ0 : zSt} {σ : zSt} {x1 : Int32} {x2 : Int32} {x3 : Int32} {s0 : Int32} {s1 : Int32} {s2 : Int32} (h : zKeM σ0 σ) : zpc (fX12_singles_84 σ x1 x2 x3 s0 s1 s2) (fun r => zKeM σ0 (r.1)) := by
  unfold fX12_singles_84
  exact zpc_if (fun _ => w_fX12_singles_92 h) (fun _ => w_fX12_singles_92 h)
theorem w_fX12_singles_50 {σ0 : zSt} {σ : zSt} {x1 : Int32} {x2 : Int32} {s0 : Int32} {s1 : Int32} (h : zKeM σ0 σ) : zpc (fX12_singles_50 σ x1 x2 s0 s1) (fun r => zKeM σ0 (r.1)) := by
  unfold fX12_singles_50
  exact zpc_bv (fun v4 _ => zpc_bu (w_fX12_rTo h) (fun σ5 hσ5 => zpc_bu (w_fX12_by hσ5) (fun σ6 hσ6 => zpc_if (fun _ => w_fX12_singles_84 hσ6) (fun _ => w_fX12_singles_84 hσ6))))
theorem w_fX12_singles_316 {σ0 : zSt} {σ : zSt} (h : zKeM σ0 σ) : zpc (fX12_singles_316 σ) (fun r => zKeM σ0 (r.1)) := by
  unfold fX12_singles_316
  exact zpc_some h
theorem w_fX12_singles_297 {σ0 : zSt} {σ : zSt} {s0 : Int32} {s1 : Int32} (h : zKeM σ0 σ) : zpc (fX12_singles_297 σ s0 s1) (fun r => zKeM σ0 (r.1)) := by
  unfold fX12_singles_297
  exact zpc_bu (w_fX12_put h) (fun σ7 hσ7 => zpc_bu (w_fX12_put hσ7) (fun σ8 hσ8 => zpc_ck (zpc_bu (w_fX12_xy hσ8) (fun σ9 hσ9 => w_fX12_singles_316 hσ9))))
theorem w_fX12_singles_292 {σ0 : zSt} {σ : zSt} {s0 : Int32} (h : zKeM σ0 σ) : zpc (fX12_singles_292 σ s0) (fun r => zKeM σ0 (r.1)) := by
  unfold fX12_singles_292
  exact w_fX12_singles_297 h
theorem w_fX12_singles_273 {σ0 : zSt} {σ : zSt} {x1 : Int32} {s0 : Int32} {s1 : Int32} (h : zKeM σ0 σ) : zpc (fX12_singles_273 σ x1 s0 s1) (fun r => zKeM σ0 (r.1)) := by
  unfold fX12_singles_273
  exact zpc_bu (w_fX12_put h) (fun σ10 hσ10 => zpc_if (fun _ => w_fX12_singles_292 hσ10) (fun _ => zpc_bi (w_fX12_flag hσ10) (fun σ11 v12 hσ11 => zpc_if (fun _ => w_fX12_singles_292 hσ11) (fun _ => w_fX12_singles_297 hσ11))))
theorem w_fX12_singles_272 {σ0 : zSt} {σ : zSt} {x1 : Int32} {s0 : Int32} (h : zKeM σ0 σ) : zpc (fX12_singles_272 σ x1 s0) (fun r => zKeM σ0 (r.1)) := by
  unfold fX12_singles_272
  exact w_fX12_singles_273 h
theorem w_fX12_singles {σ0 : zSt} {σ : zSt} {x1 : Int32} {x2 : Int32} (h : zKeM σ0 σ) : zpc (fX12_singles σ x1 x2) (fun r => zKeM σ0 (r.1)) := by
  unfold fX12_singles
  exact zpc_if (fun _ => zpc_bi (w_fX12_next h) (fun σ28 v29 hσ28 => zpc_bu (w_fX12_rTo hσ28) (fun σ30 hσ30 => zpc_if (fun _ => w_fX12_singles_28 hσ30) (fun _ => w_fX12_singles_28 hσ30)))) (fun _ => zpc_if (fun _ => zpc_if (fun _ => zpc_if (fun _ => zpc_bu (w_fX12_adjusts h) (fun σ19 hσ19 => w_fX12_singles_316 hσ19)) (fun _ => zpc_if (fun _ => zpc_ck (zpc_ck (zpc_bs (zKeM.wi h (by decide)) (fun σ15 hσ15 => zpc_bu (w_fX12_put hσ15) (fun σ16 hσ16 => zpc_bu (w_fX12_put hσ16) (fun σ17 hσ17 => zpc_ck (zpc_bu (w_fX12_xy hσ17) (fun σ18 hσ18 => w_fX12_singles_316 hσ18)))))))) (fun _ => zpc_if (fun _ => zpc_bi (w_fX12_flag h) (fun σ13 v14 hσ13 => zpc_if (fun _ => w_fX12_singles_273 hσ13) (fun _ => w_fX12_singles_272 hσ13))) (fun _ => w_fX12_singles_272 h)))) (fun _ => zpc_ck (zpc_bi (w_fX12_turned h) (fun σ20 v21 hσ20 => zpc_ck (zpc_bs (zKeM.wi hσ20 (by decide)) (fun σ22 hσ22 => zpc_ck (zpc_bu (w_fX12_xy hσ22) (fun σ23 hσ23 => zpc_bu (w_fX12_put hσ23) (fun σ24 hσ24 => zpc_bu (w_fX12_put hσ24) (fun σ25 hσ25 => w_fX12_singles_316 hσ25)))))))))) (fun _ => zpc_bi (w_fX12_r h) (fun σ26 v27 hσ26 => zpc_if (fun _ => w_fX12_singles_50 hσ26) (fun _ => w_fX12_singles_50 hσ26))))
theorem w_fX12_plain_r1_160 {σ0 : zSt} {σ : zSt} {s0 : Int32} (h : zKeM σ0 σ) : zpc (fX12_plain_r1_160 σ s0) (fun r => zKeM σ0 (r.1)) := by
  unfold fX12_plain_r1_160
  exact zpc_some h
theorem w_fX12_plain_r1_139 {σ0 : zSt} {σ : zSt} {s0 : Int32} (h : zKeM σ0 σ) : zpc (fX12_plain_r1_139 σ s0) (fun r => zKeM σ0 (r.1)) := by
  unfold fX12_plain_r1_139
  exact zpc_some h
theorem w_fX12_plain_r1_116 {σ0 : zSt} {σ : zSt} {s0 : Int32} (h : zKeM σ0 σ) : zpc (fX12_plain_r1_116 σ s0) (fun r => zKeM σ0 (r.1)) := by
  unfold fX12_plain_r1_116
  exact zpc_some h
theorem w_fX12_plain_r1_115 {σ0 : zSt} {σ : zSt} (h : zKeM σ0 σ) : zpc (fX12_plain_r1_115 σ) (fun r => zKeM σ0 (r.1)) := by
  unfold fX12_plain_r1_115
  exact w_fX12_plain_r1_116 h
theorem w_fX12_plain_r1_110 {σ0 : zSt} {σ : zSt} (h : zKeM σ0 σ) : zpc (fX12_plain_r1_110 σ) (fun r => zKeM σ0 (r.1)) := by
  unfold fX12_plain_r1_110
  exact w_fX12_plain_r1_116 h
theorem w_fX12_plain_r1_92 {σ0 : zSt} {σ : zSt} {x1 : Int32} {x2 : Int32} {x3 : Int32} (h : zKeM σ0 σ) : zpc (fX12_plain_r1_92 σ x1 x2 x3) (fun r => zKeM σ0 (r.1)) := by
  unfold fX12_plain_r1_92
  exact zpc_if (fun _ => w_fX12_plain_r1_115 h) (fun _ => zpc_if (fun _ => w_fX12_plain_r1_110 h) (fun _ => zpc_if (fun _ => w_fX12_plain_r1_110 h) (fun _ => w_fX12_plain_r1_115 h)))
theorem w_fX12_plain_r1_64 {σ0 : zSt} {σ : zSt} {s0 : Int32} (h : zKeM σ0 σ) : zpc (fX12_plain_r1_64 σ s0) (fun r => zKeM σ0 (r.1)) := by
  unfold fX12_plain_r1_64
  exact zpc_some h
theorem w_fX12_plain_r1 {σ0 : zSt} {σ : zSt} {x1 : Int32} (h : zKeM σ0 σ) : zpc (fX12_plain_r1 σ x1) (fun r => zKeM σ0 (r.1)) := by
  unfold fX12_plain_r1
  exact zpc_bv (fun v1 _ => zpc_bv (fun v2 _ => zpc_if (fun _ => zpc_if (fun _ => zpc_bi (w_fX12_singles h) (fun σ3 v4 hσ3 => w_fX12_plain_r1_64 hσ3)) (fun _ => zpc_bi (w_fX12_zero h) (fun σ5 v6 hσ5 => w_fX12_plain_r1_64 hσ5))) (fun _ => zpc_if (fun _ => zpc_if (fun _ => zpc_ck (zpc_bs (zKeM.wi h (by decide)) (fun σ10 hσ10 => w_fX12_plain_r1_92 hσ10))) (fun _ => zpc_bi (w_fX12_r h) (fun σ7 v8 hσ7 => zpc_bu (w_fX12_rTo hσ7) (fun σ9 hσ9 => w_fX12_plain_r1_92 hσ9)))) (fun _ => zpc_if (fun _ => zpc_bi (w_fX12_r h) (fun σ11 v12 hσ11 => zpc_bu (w_fX12_does hσ11) (fun σ13 hσ13 => zpc_if (fun _ => w_fX12_plain_r1_139 hσ13) (fun _ => w_fX12_plain_r1_139 hσ13)))) (fun _ => zpc_if (fun _ => zpc_bi (w_fX12_more3_r1 h) (fun σ14 v15 hσ14 => w_fX12_plain_r1_160 hσ14)) (fun _ => zpc_bi (w_fX12_three h) (fun σ16 v17 hσ16 => w_fX12_plain_r1_160 hσ16)))))))
theorem w_fX12_prefixed_33 {σ0 : zSt} {σ : zSt} (h : zKeM σ0 σ) : zpc (fX12_prefixed_33 σ) (fun r => zKeM σ0 (r.1)) := by
  unfold fX12_prefixed_33
  exact zpc_ck (zpc_bs (zKeM.wi h (by decide)) (fun σ1 hσ1 => zpc_some hσ1))
theorem w_fX12_prefixed_154 {σ0 : zSt} {σ : zSt} {s0 : Int32} (h : zKeM σ0 σ) : zpc (fX12_prefixed_154 σ s0) (fun r => zKeM σ0 (r.1)) := by
  unfold fX12_prefixed_154
  exact zpc_some h
theorem w_fX12_prefixed_135 {σ0 : zSt} {σ : zSt} {x4 : Int32} {x5 : Int32} (h : zKeM σ0 σ) : zpc (fX12_prefixed_135 σ x4 x5) (fun r => zKeM σ0 (r.1)) := by
  unfold fX12_prefixed_135
  exact zpc_if (fun _ => w_fX12_prefixed_154 h) (fun _ => w_fX12_prefixed_154 h)
theorem w_fX12_prefixed_311 {σ0 : zSt} {σ : zSt} {s0 : Int32} {s1 : Int32} (h : zKeM σ0 σ) : zpc (fX12_prefixed_311 σ s0 s1) (fun r => zKeM σ0 (r.1)) := by
  unfold fX12_prefixed_311
  exact zpc_some h
theorem w_fX12_prefixed_244 {σ0 : zSt} {σ : zSt} {x1 : Int32} {x3 : Int32} {s0 : Int32} (h : zKeM σ0 σ) : zpc (fX12_prefixed_244 σ x1 x3 s0) (fun r => zKeM σ0 (r.1)) := by
  unfold fX12_prefixed_244
  exact zpc_if (fun _ => zpc_bs (zKeM.w0 h (by decide)) (fun σ10 hσ10 => zpc_bi (w_fX12_plain_r1 hσ10) (fun σ11 v12 hσ11 => zpc_some hσ11))) (fun _ => zpc_ck (zpc_bi (w_fX12_next h) (fun σ2 v3 hσ2 => zpc_bi (w_fX12_signed hσ2) (fun σ4 v5 hσ4 => zpc_ck (zpc_bs (zKeM.wi hσ4 (by decide)) (fun σ6 hσ6 => zpc_ck (zpc_bs (zKeM.w0 hσ6 (by decide)) (fun σ7 hσ7 => zpc_bi (w_fX12_plain_r1 hσ7) (fun σ8 v9 hσ8 => zpc_if (fun _ => w_fX12_prefixed_311 hσ8) (fun _ => w_fX12_prefixed_311 hσ8))))))))))
theorem w_fX12_prefixed_243 {σ0 : zSt} {σ : zSt} {x1 : Int32} {x3 : Int32} (h : zKeM σ0 σ) : zpc (fX12_prefixed_243 σ x1 x3) (fun r => zKeM σ0 (r.1)) := by
  unfold fX12_prefixed_243
  exact w_fX12_prefixed_244 h
theorem w_fX12_prefixed_239 {σ0 : zSt} {σ : zSt} {x1 : Int32} {x3 : Int32} (h : zKeM σ0 σ) : zpc (fX12_prefixed_239 σ x1 x3) (fun r => zKeM σ0 (r.1)) := by
  unfold fX12_prefixed_239
  exact w_fX12_prefixed_244 h
theorem w_fX12_prefixed_226 {σ0 : zSt} {σ : zSt} {x1 : Int32} {x3 : Int32} {x5 : Int32} {x6 : Int32} (h : zKeM σ0 σ) : zpc (fX12_prefixed_226 σ x1 x3 x5 x6) (fun r => zKeM σ0 (r.1)) := by
  unfold fX12_prefixed_226
  exact zpc_if (fun _ => zpc_if (fun _ => w_fX12_prefixed_239 h) (fun _ => w_fX12_prefixed_243 h)) (fun _ => w_fX12_prefixed_243 h)
theorem w_fX12_prefixed_220 {σ0 : zSt} {σ : zSt} {x1 : Int32} {x3 : Int32} {x5 : Int32} {x6 : Int32} (h : zKeM σ0 σ) : zpc (fX12_prefixed_220 σ x1 x3 x5 x6) (fun r => zKeM σ0 (r.1)) := by
  unfold fX12_prefixed_220
  exact zpc_if (fun _ => w_fX12_prefixed_226 h) (fun _ => w_fX12_prefixed_239 h)
theorem w_fX12_prefixed_200 {σ0 : zSt} {σ : zSt} {x1 : Int32} {x3 : Int32} {x4 : Int32} {x5 : Int32} {x6 : Int32} (h : zKeM σ0 σ) : zpc (fX12_prefixed_200 σ x1 x3 x4 x5 x6) (fun r => zKeM σ0 (r.1)) := by
  unfold fX12_prefixed_200
  exact zpc_if (fun _ => zpc_if (fun _ => w_fX12_prefixed_220 h) (fun _ => zpc_if (fun _ => w_fX12_prefixed_220 h) (fun _ => w_fX12_prefixed_226 h))) (fun _ => w_fX12_prefixed_226 h)
theorem w_fX12_prefixed {σ0 : zSt} {σ : zSt} {x1 : Int32} (h : zKeM σ0 σ) : zpc (fX12_prefixed σ x1) (fun r => zKeM σ0 (r.1)) := by
  unfold fX12_prefixed
  exact zpc_ck (zpc_bi (w_fX12_read h) (fun σ13 v14 hσ13 => zpc_if (fun _ => w_fX12_prefixed_33 hσ13) (fun _ => zpc_if (fun _ => w_fX12_prefixed_33 hσ13) (fun _ => zpc_if (fun _ => w_fX12_prefixed_33 hσ13) (fun _ => zpc_bi (w_fX12_fetch hσ13) (fun σ15 v16 hσ15 => zpc_if (fun _ => zpc_ck (zpc_bi (w_fX12_next hσ15) (fun σ20 v21 hσ20 => zpc_bi (w_fX12_signed hσ20) (fun σ22 v23 hσ22 => zpc_ck (zpc_bs (zKeM.wi hσ22 (by decide)) (fun σ24 hσ24 => zpc_ck (zpc_bs (zKeM.w0 hσ24 (by decide)) (fun σ25 hσ25 => zpc_bi (w_fX12_next hσ25) (fun σ26 v27 hσ26 => zpc_bi (w_fX12_turn hσ26) (fun σ28 v29 hσ28 => zpc_if (fun _ => w_fX12_prefixed_135 hσ28) (fun _ => zpc_if (fun _ => w_fX12_prefixed_135 hσ28) (fun _ => zpc_ck (zpc_bs (zKeM.w0 hσ28 (by decide)) (fun σ30 hσ30 => zpc_bu (w_fX12_rTo hσ30) (fun σ31 hσ31 => w_fX12_prefixed_135 hσ31))))))))))))))) (fun _ => zpc_bv (fun v17 _ => zpc_bv (fun v18 _ => zpc_bv (fun v19 _ => zpc_if (fun _ => zpc_if (fun _ => w_fX12_prefixed_200 hσ15) (fun _ => zpc_if (fun _ => w_fX12_prefixed_200 hσ15) (fun _ => zpc_if (fun _ => w_fX12_prefixed_239 hσ15) (fun _ => w_fX12_prefixed_200 hσ15)))) (fun _ => w_fX12_prefixed_200 hσ15)))))))))))
theorem w_fX12_more3_119 {σ0 : zSt} {σ : zSt} {s0 : Int32} (h : zKeM σ0 σ) : zpc (fX12_more3_119 σ s0) (fun r => zKeM σ0 (r.1)) := by
  unfold fX12_more3_119
  exact zpc_bu (w_fX12_push h) (fun σ1 hσ1 => zpc_some hσ1)
theorem w_fX12_more3_200 {σ0 : zSt} {σ : zSt} {s0 : Int32} (h : zKeM σ0 σ) : zpc (fX12_more3_200 σ s0) (fun r => zKeM σ0 (r.1)) := by
  unfold fX12_more3_200
  exact zpc_some h
theorem w_fX12_more3_197 {σ0 : zSt} {σ : zSt} {s0 : Int32} (h : zKeM σ0 σ) : zpc (fX12_more3_197 σ s0) (fun r => zKeM σ0 (r.1)) := by
  unfold fX12_more3_197
  exact zpc_bi (w_fX12_prefixed h) (fun σ2 v3 hσ2 => w_fX12_more3_200 hσ2)
theorem w_fX12_more3 {σ0 : zSt} {σ : zSt} {x1 : Int32} {x2 : Int32} (h : zKeM σ0 σ) : zpc (fX12_more3 σ x1 x2) (fun r => zKeM σ0 (r.1)) := by
  unfold fX12_more3
  exact zpc_bv (fun v4 _ => zpc_if (fun _ => zpc_bi (w_fX12_nextWord h) (fun σ22 v23 hσ22 => zpc_ck (zpc_bs (zKeM.wi hσ22 (by decide)) (fun σ24 hσ24 => zpc_bi (w_fX12_cc hσ24) (fun σ25 v26 hσ25 => zpc_if (fun _ => zpc_some hσ25) (fun _ => zpc_ck (zpc_bu (w_fX12_push hσ25) (fun σ27 hσ27 => zpc_ck (zpc_ck (zpc_bs (zKeM.wi hσ27 (by decide)) (fun σ28 hσ28 => zpc_some hσ28))))))))))) (fun _ => zpc_if (fun _ => zpc_bi (w_fX12_next h) (fun σ19 v20 hσ19 => zpc_bu (w_fX12_does hσ19) (fun σ21 hσ21 => zpc_some hσ21))) (fun _ => zpc_if (fun _ => zpc_bu (w_fX12_call h) (fun σ18 hσ18 => zpc_some hσ18)) (fun _ => zpc_ck (zpc_if (fun _ => zpc_if (fun _ => zpc_bi (w_fX12_pair h) (fun σ16 v17 hσ16 => w_fX12_more3_119 hσ16)) (fun _ => zpc_bi (w_fX12_rp h) (fun σ14 v15 hσ14 => w_fX12_more3_119 hσ14))) (fun _ => zpc_if (fun _ => zpc_bi (w_fX12_nextWord h) (fun σ9 v10 hσ9 => zpc_ck (zpc_bs (zKeM.wi hσ9 (by decide)) (fun σ11 hσ11 => zpc_ck (zpc_bu (w_fX12_push hσ11) (fun σ12 hσ12 => zpc_ck (zpc_ck (zpc_bs (zKeM.wi hσ12 (by decide)) (fun σ13 hσ13 => zpc_some hσ13))))))))) (fun _ => zpc_if (fun _ => zpc_bi (w_fX12_fetch h) (fun σ5 v6 hσ5 => zpc_bi (w_fX12_more hσ5) (fun σ7 v8 hσ7 => w_fX12_more3_200 hσ7))) (fun _ => zpc_if (fun _ => w_fX12_more3_197 h) (fun _ => w_fX12_more3_197 h)))))))))
theorem w_fX12_plain_160 {σ0 : zSt} {σ : zSt} {s0 : Int32} (h : zKeM σ0 σ) : zpc (fX12_plain_160 σ s0) (fun r => zKeM σ0 (r.1)) := by
  unfold fX12_plain_160
  exact zpc_some h
theorem w_fX12_plain_139 {σ0 : zSt} {σ : zSt} {s0 : Int32} (h : zKeM σ0 σ) : zpc (fX12_plain_139 σ s0) (fun r => zKeM σ0 (r.1)) := by
  unfold fX12_plain_139
  exact zpc_some h
theorem w_fX12_plain_116 {σ0 : zSt} {σ : zSt} {s0 : Int32} (h : zKeM σ0 σ) : zpc (fX12_plain_116 σ s0) (fun r => zKeM σ0 (r.1)) := by
  unfold fX12_plain_116
  exact zpc_some h
theorem w_fX12_plain_115 {σ0 : zSt} {σ : zSt} (h : zKeM σ0 σ) : zpc (fX12_plain_115 σ) (fun r => zKeM σ0 (r.1)) := by
  unfold fX12_plain_115
  exact w_fX12_plain_116 h
theorem w_fX12_plain_110 {σ0 : zSt} {σ : zSt} (h : zKeM σ0 σ) : zpc (fX12_plain_110 σ) (fun r => zKeM σ0 (r.1)) := by
  unfold fX12_plain_110
  exact w_fX12_plain_116 h
theorem w_fX12_plain_92 {σ0 : zSt} {σ : zSt} {x1 : Int32} {x2 : Int32} {x3 : Int32} (h : zKeM σ0 σ) : zpc (fX12_plain_92 σ x1 x2 x3) (fun r => zKeM σ0 (r.1)) := by
  unfold fX12_plain_92
  exact zpc_if (fun _ => w_fX12_plain_115 h) (fun _ => zpc_if (fun _ => w_fX12_plain_110 h) (fun _ => zpc_if (fun _ => w_fX12_plain_110 h) (fun _ => w_fX12_plain_115 h)))
theorem w_fX12_plain_64 {σ0 : zSt} {σ : zSt} {s0 : Int32} (h : zKeM σ0 σ) : zpc (fX12_plain_64 σ s0) (fun r => zKeM σ0 (r.1)) := by
  unfold fX12_plain_64
  exact zpc_some h
theorem w_fX12_plain {σ0 : zSt} {σ : zSt} {x1 : Int32} (h : zKeM σ0 σ) : zpc (fX12_plain σ x1) (fun r => zKeM σ0 (r.1)) := by
  unfold fX12_plain
  exact zpc_bv (fun v1 _ => zpc_bv (fun v2 _ => zpc_if (fun _ => zpc_if (fun _ => zpc_bi (w_fX12_singles h) (fun σ3 v4 hσ3 => w_fX12_plain_64 hσ3)) (fun _ => zpc_bi (w_fX12_zero h) (fun σ5 v6 hσ5 => w_fX12_plain_64 hσ5))) (fun _ => zpc_if (fun _ => zpc_if (fun _ => zpc_ck (zpc_bs (zKeM.wi h (by decide)) (fun σ10 hσ10 => w_fX12_plain_92 hσ10))) (fun _ => zpc_bi (w_fX12_r h) (fun σ7 v8 hσ7 => zpc_bu (w_fX12_rTo hσ7) (fun σ9 hσ9 => w_fX12_plain_92 hσ9)))) (fun _ => zpc_if (fun _ => zpc_bi (w_fX12_r h) (fun σ11 v12 hσ11 => zpc_bu (w_fX12_does hσ11) (fun σ13 hσ13 => zpc_if (fun _ => w_fX12_plain_139 hσ13) (fun _ => w_fX12_plain_139 hσ13)))) (fun _ => zpc_if (fun _ => zpc_bi (w_fX12_more3 h) (fun σ14 v15 hσ14 => w_fX12_plain_160 hσ14)) (fun _ => zpc_bi (w_fX12_three h) (fun σ16 v17 hσ16 => w_fX12_plain_160 hσ16)))))))
theorem w_fX12_instruction {σ0 : zSt} {σ : zSt} (h : zKeM σ0 σ) : zpc (fX12_instruction σ) (fun r => zKeM σ0 (r.1)) := by
  unfold fX12_instruction
  exact zpc_bs (zKeM.w0 h (by decide)) (fun σ1 hσ1 => zpc_ck (zpc_bs (zKeM.w0 hσ1 (by decide)) (fun σ2 hσ2 => zpc_bi (w_fX12_fetch hσ2) (fun σ3 v4 hσ3 => zpc_bi (w_fX12_plain hσ3) (fun σ5 v6 hσ5 => zpc_some hσ5)))))
theorem w_fX12_answers {σ0 : zSt} {σ : zSt} (h : zKeM σ0 σ) : zpc (fX12_answers σ) (fun r => zKeM σ0 (r)) := by
  unfold fX12_answers
  exact zpc_bu (w_fX12_grows h) (fun σ1 hσ1 => zpc_ck (zpc_bs (zKeM.wi hσ1 (by decide)) (fun σ2 hσ2 => zpc_some hσ2)))
theorem w_fX12_reg {σ0 : zSt} {σ : zSt} {x1 : Int32} (h : zKeM σ0 σ) : zpc (fX12_reg σ x1) (fun r => zKeM σ0 (r.1)) := by
  unfold fX12_reg
  exact zpc_ck (zpc_some h)
theorem w_fX12_tileDot_6_body {σ0 : zSt} {k6 : zSt → Int32 → Int32 → Int32 → Int32 → Int32 → Option (zSt × Int32)} (hk6 : ∀ (y0 : zSt) (y1 : Int32) (y2 : Int32) (y3 : Int32) (y4 : Int32) (y5 : Int32), zKeM σ0 y0 → zpc (k6 y0 y1 y2 y3 y4 y5) (fun r => zKeM σ0 (r.1))) {σ : zSt} {x1 : Int32} {x2 : Int32} {x3 : Int32} {x4 : Int32} {x5 : Int32} (h : zKeM σ0 σ) : zpc (fX12_tileDot_6_body k6 σ x1 x2 x3 x4 x5) (fun r => zKeM σ0 (r.1)) := by
  unfold fX12_tileDot_6_body
  exact zpc_if (fun _ => zpc_some h) (fun _ => zpc_bi (w_fX12_video8 h) (fun σ1 v2 hσ1 => zpc_bv (fun v3 _ => zpc_bv (fun v4 _ => hk6 _ _ _ _ _ _ hσ1))))
theorem w_fX12_tileDot_6 {σ0 : zSt} : ∀ (n : Nat) (y0 : zSt) (y1 : Int32) (y2 : Int32) (y3 : Int32) (y4 : Int32) (y5 : Int32), zKeM σ0 y0 → zpc (fX12_tileDot_6 n y0 y1 y2 y3 y4 y5) (fun r => zKeM σ0 (r.1)) := by
  intro n
  induction n with
  | zero => intro y0 y1 y2 y3 y4 y5 h; exact zpc_none
  | succ n ih => intro y0 y1 y2 y3 y4 y5 h; exact w_fX12_tileDot_6_body ih h
theorem w_fX12_tileDot {σ0 : zSt} {σ : zSt} {x1 : Int32} {x2 : Int32} {x3 : Int32} (h : zKeM σ0 σ) : zpc (fX12_tileDot σ x1 x2 x3) (fun r => zKeM σ0 (r.1)) := by
  unfold fX12_tileDot
  exact w_fX12_tileDot_6 _ _ _ _ _ _ _ h
theorem w_fX12_tile_302 {σ0 : zSt} {σ : zSt} {s0 : Int32} {s1 : Int32} (h : zKeM σ0 σ) : zpc (fX12_tile_302 σ s0 s1) (fun r => zKeM σ0 (r)) := by
  unfold fX12_tile_302
  exact zpc_ck (zpc_bs (zKeM.wi h (by decide)) (fun σ1 hσ1 => zpc_some hσ1))
theorem w_fX12_tile_301 {σ0 : zSt} {σ : zSt} {s0 : Int32} (h : zKeM σ0 σ) : zpc (fX12_tile_301 σ s0) (fun r => zKeM σ0 (r)) := by
  unfold fX12_tile_301
  exact w_fX12_tile_302 h
theorem w_fX12_tile_276 {σ0 : zSt} {σ : zSt} {x2 : Int32} {x9 : Int32} {x12 : Int32} {s0 : Int32} {s1 : Int32} {s2 : Int32} (h : zKeM σ0 σ) : zpc (fX12_tile_276 σ x2 x9 x12 s0 s1 s2) (fun r => zKeM σ0 (r)) := by
  unfold fX12_tile_276
  exact zpc_ck (zpc_bs (zKeM.wi h (by decide)) (fun σ2 hσ2 => zpc_if (fun _ => w_fX12_tile_301 hσ2) (fun _ => zpc_if (fun _ => w_fX12_tile_301 hσ2) (fun _ => w_fX12_tile_302 hσ2))))
theorem w_fX12_tile_236 {σ0 : zSt} {σ : zSt} {x2 : Int32} {x9 : Int32} {x10 : Int32} {s0 : Int32} (h : zKeM σ0 σ) : zpc (fX12_tile_236 σ x2 x9 x10 s0) (fun r => zKeM σ0 (r)) := by
  unfold fX12_tile_236
  exact zpc_bi (w_fX12_tileDot h) (fun σ3 v4 hσ3 => zpc_if (fun _ => w_fX12_tile_276 hσ3) (fun _ => w_fX12_tile_276 hσ3))
theorem w_fX12_tile_209 {σ0 : zSt} {σ : zSt} {x2 : Int32} {x7 : Int32} {x9 : Int32} {s0 : Int32} (h : zKeM σ0 σ) : zpc (fX12_tile_209 σ x2 x7 x9 s0) (fun r => zKeM σ0 (r)) := by
  unfold fX12_tile_209
  exact zpc_if (fun _ => zpc_ck (w_fX12_tile_236 h)) (fun _ => zpc_ck (w_fX12_tile_236 h))
theorem w_fX12_tile_141 {σ0 : zSt} {σ : zSt} {x2 : Int32} {x4 : Int32} {x6 : Int32} {s0 : Int32} (h : zKeM σ0 σ) : zpc (fX12_tile_141 σ x2 x4 x6 s0) (fun r => zKeM σ0 (r)) := by
  unfold fX12_tile_141
  exact zpc_ck (zpc_ck (zpc_bv (fun v5 _ => zpc_bi (w_fX12_video8 h) (fun σ6 v7 hσ6 => zpc_bi (w_fX12_video8 hσ6) (fun σ8 v9 hσ8 => zpc_bv (fun v10 _ => zpc_if (fun _ => zpc_ck (w_fX12_tile_209 hσ8)) (fun _ => zpc_ck (w_fX12_tile_209 hσ8))))))))
theorem w_fX12_tile_140 {σ0 : zSt} {σ : zSt} {x2 : Int32} {x4 : Int32} {x6 : Int32} {s0 : Int32} {s1 : Int32} (h : zKeM σ0 σ) : zpc (fX12_tile_140 σ x2 x4 x6 s0 s1) (fun r => zKeM σ0 (r)) := by
  unfold fX12_tile_140
  exact zpc_ck (w_fX12_tile_141 h)
theorem w_fX12_tile_118 {σ0 : zSt} {σ : zSt} {x1 : Int32} {x2 : Int32} {x3 : Int32} {x4 : Int32} {x6 : Int32} (h : zKeM σ0 σ) : zpc (fX12_tile_118 σ x1 x2 x3 x4 x6) (fun r => zKeM σ0 (r)) := by
  unfold fX12_tile_118
  exact zpc_ck (zpc_if (fun _ => w_fX12_tile_140 h) (fun _ => w_fX12_tile_140 h))
theorem w_fX12_tile_84 {σ0 : zSt} {σ : zSt} {x1 : Int32} {x2 : Int32} {x3 : Int32} {x4 : Int32} {s0 : Int32} (h : zKeM σ0 σ) : zpc (fX12_tile_84 σ x1 x2 x3 x4 s0) (fun r => zKeM σ0 (r)) := by
  unfold fX12_tile_84
  exact zpc_bv (fun v11 _ => zpc_if (fun _ => w_fX12_tile_118 h) (fun _ => zpc_bi (w_fX12_bit h) (fun σ12 v13 hσ12 => zpc_if (fun _ => w_fX12_tile_141 hσ12) (fun _ => w_fX12_tile_118 hσ12))))
theorem w_fX12_tile_78 {σ0 : zSt} {σ : zSt} {x1 : Int32} {x2 : Int32} {x3 : Int32} {x4 : Int32} (h : zKeM σ0 σ) : zpc (fX12_tile_78 σ x1 x2 x3 x4) (fun r => zKeM σ0 (r)) := by
  unfold fX12_tile_78
  exact zpc_bi (w_fX12_reg h) (fun σ14 v15 hσ14 => w_fX12_tile_84 hσ14)
theorem w_fX12_tile_55 {σ0 : zSt} {σ : zSt} {x1 : Int32} {x2 : Int32} {x3 : Int32} {s0 : Int32} (h : zKeM σ0 σ) : zpc (fX12_tile_55 σ x1 x2 x3 s0) (fun r => zKeM σ0 (r)) := by
  unfold fX12_tile_55
  exact zpc_if (fun _ => w_fX12_tile_78 h) (fun _ => zpc_bi (w_fX12_bit h) (fun σ16 v17 hσ16 => zpc_if (fun _ => w_fX12_tile_84 hσ16) (fun _ => w_fX12_tile_78 hσ16)))
theorem w_fX12_tile_15 {σ0 : zSt} {σ : zSt} {x1 : Int32} {x2 : Int32} {s0 : Int32} (h : zKeM σ0 σ) : zpc (fX12_tile_15 σ x1 x2 s0) (fun r => zKeM σ0 (r)) := by
  unfold fX12_tile_15
  exact zpc_if (fun _ => zpc_bi (w_fX12_reg h) (fun σ18 v19 hσ18 => zpc_ck (zpc_ck (w_fX12_tile_55 hσ18)))) (fun _ => zpc_bi (w_fX12_reg h) (fun σ20 v21 hσ20 => zpc_ck (w_fX12_tile_55 hσ20)))
theorem w_fX12_tile {σ0 : zSt} {σ : zSt} {x1 : Int32} {x2 : Int32} (h : zKeM σ0 σ) : zpc (fX12_tile σ x1 x2) (fun r => zKeM σ0 (r)) := by
  unfold fX12_tile
  exact zpc_bi (w_fX12_height h) (fun σ22 v23 hσ22 => zpc_if (fun _ => w_fX12_tile_15 hσ22) (fun _ => w_fX12_tile_15 hσ22))
theorem w_fX12_sprites_349 {σ0 : zSt} {k73 : zSt → Int32 → Int32 → Int32 → Int32 → Int32 → Int32 → Int32 → Option (zSt)} (hk73 : ∀ (y0 : zSt) (y1 : Int32) (y2 : Int32) (y3 : Int32) (y4 : Int32) (y5 : Int32) (y6 : Int32) (y7 : Int32), zKeM σ0 y0 → zpc (k73 y0 y1 y2 y3 y4 y5 y6 y7) (fun r => zKeM σ0 (r))) {σ : zSt} {x1 : Int32} {x2 : Int32} {x3 : Int32} {x4 : Int32} {x5 : Int32} {x6 : Int32} {x7 : Int32} (h : zKeM σ0 σ) : zpc (fX12_sprites_349 k73 σ x1 x2 x3 x4 x5 x6 x7) (fun r => zKeM σ0 (r)) := by
  unfold fX12_sprites_349
  exact zpc_bv (fun v1 _ => hk73 _ _ _ _ _ _ _ _ h)
theorem w_fX12_sprites_343 {σ0 : zSt} {k73 : zSt → Int32 → Int32 → Int32 → Int32 → Int32 → Int32 → Int32 → Option (zSt)} (hk73 : ∀ (y0 : zSt) (y1 : Int32) (y2 : Int32) (y3 : Int32) (y4 : Int32) (y5 : Int32) (y6 : Int32) (y7 : Int32), zKeM σ0 y0 → zpc (k73 y0 y1 y2 y3 y4 y5 y6 y7) (fun r => zKeM σ0 (r))) {k250 : zSt → Int32 → Int32 → Int32 → Int32 → Int32 → Int32 → Int32 → Int32 → Int32 → Int32 → Int32 → Option (zSt)} (hk250 : ∀ (y0 : zSt) (y1 : Int32) (y2 : Int32) (y3 : Int32) (y4 : Int32) (y5 : Int32) (y6 : Int32) (y7 : Int32) (y8 : Int32) (y9 : Int32) (y10 : Int32) (y11 : Int32), zKeM σ0 y0 → zpc (k250 y0 y1 y2 y3 y4 y5 y6 y7 y8 y9 y10 y11) (fun r => zKeM σ0 (r))) {σ : zSt} {x1 : Int32} {x2 : Int32} {x3 : Int32} {x4 : Int32} {x5 : Int32} {x6 : Int32} {x7 : Int32} {x9 : Int32} {x10 : Int32} {x11 : Int32} {x12 : Int32} (h : zKeM σ0 σ) : zpc (fX12_sprites_343 k73 k250 σ x1 x2 x3 x4 x5 x6 x7 x9 x10 x11 x12) (fun r => zKeM σ0 (r)) := by
  unfold fX12_sprites_343
  exact zpc_bv (fun v2 _ => hk250 _ _ _ _ _ _ _ _ _ _ _ _ h)
theorem w_fX12_sprites_250_body {σ0 : zSt} {k73 : zSt → Int32 → Int32 → Int32 → Int32 → Int32 → Int32 → Int32 → Option (zSt)} (hk73 : ∀ (y0 : zSt) (y1 : Int32) (y2 : Int32) (y3 : Int32) (y4 : Int32) (y5 : Int32) (y6 : Int32) (y7 : Int32), zKeM σ0 y0 → zpc (k73 y0 y1 y2 y3 y4 y5 y6 y7) (fun r => zKeM σ0 (r))) {k250 : zSt → Int32 → Int32 → Int32 → Int32 → Int32 → Int32 → Int32 → Int32 → Int32 → Int32 → Int32 → Option (zSt)} (hk250 : ∀ (y0 : zSt) (y1 : Int32) (y2 : Int32) (y3 : Int32) (y4 : Int32) (y5 : Int32) (y6 : Int32) (y7 : Int32) (y8 : Int32) (y9 : Int32) (y10 : Int32) (y11 : Int32), zKeM σ0 y0 → zpc (k250 y0 y1 y2 y3 y4 y5 y6 y7 y8 y9 y10 y11) (fun r => zKeM σ0 (r))) {σ : zSt} {x1 : Int32} {x2 : Int32} {x3 : Int32} {x4 : Int32} {x5 : Int32} {x6 : Int32} {x7 : Int32} {x9 : Int32} {x10 : Int32} {x11 : Int32} {x12 : Int32} (h : zKeM σ0 σ) : zpc (fX12_sprites_250_body k73 k250 σ x1 x2 x3 x4 x5 x6 x7 x9 x10 x11 x12) (fun r => zKeM σ0 (r)) := by
  unfold fX12_sprites_250_body
  exact zpc_if (fun _ => w_fX12_sprites_349 hk73 h) (fun _ => zpc_ck (zpc_ck (zpc_ck (zpc_bi (w_fX12_tileDot h) (fun σ3 v4 hσ3 => zpc_bv (fun v5 _ => zpc_if (fun _ => w_fX12_sprites_343 hk73 hk250 hσ3) (fun _ => zpc_if (fun _ => w_fX12_sprites_343 hk73 hk250 hσ3) (fun _ => zpc_if (fun _ => zpc_ck (zpc_if (fun _ => zpc_ck (zpc_bs (zKeM.wi hσ3 (by decide)) (fun σ6 hσ6 => w_fX12_sprites_343 hk73 hk250 hσ6))) (fun _ => zpc_ck (zpc_ck (zpc_bs (zKeM.wi hσ3 (by decide)) (fun σ7 hσ7 => w_fX12_sprites_343 hk73 hk250 hσ7)))))) (fun _ => w_fX12_sprites_343 hk73 hk250 hσ3)))))))))
theorem w_fX12_sprites_250 {σ0 : zSt} {k73 : zSt → Int32 → Int32 → Int32 → Int32 → Int32 → Int32 → Int32 → Option (zSt)} (hk73 : ∀ (y0 : zSt) (y1 : Int32) (y2 : Int32) (y3 : Int32) (y4 : Int32) (y5 : Int32) (y6 : Int32) (y7 : Int32), zKeM σ0 y0 → zpc (k73 y0 y1 y2 y3 y4 y5 y6 y7) (fun r => zKeM σ0 (r))) : ∀ (n : Nat) (y0 : zSt) (y1 : Int32) (y2 : Int32) (y3 : Int32) (y4 : Int32) (y5 : Int32) (y6 : Int32) (y7 : Int32) (y8 : Int32) (y9 : Int32) (y10 : Int32) (y11 : Int32), zKeM σ0 y0 → zpc (fX12_sprites_250 k73 n y0 y1 y2 y3 y4 y5 y6 y7 y8 y9 y10 y11) (fun r => zKeM σ0 (r)) := by
  intro n
  induction n with
  | zero => intro y0 y1 y2 y3 y4 y5 y6 y7 y8 y9 y10 y11 h; exact zpc_none
  | succ n ih => intro y0 y1 y2 y3 y4 y5 y6 y7 y8 y9 y10 y11 h; exact w_fX12_sprites_250_body hk73 ih h
theorem w_fX12_sprites_244 {σ0 : zSt} {k73 : zSt → Int32 → Int32 → Int32 → Int32 → Int32 → Int32 → Int32 → Option (zSt)} (hk73 : ∀ (y0 : zSt) (y1 : Int32) (y2 : Int32) (y3 : Int32) (y4 : Int32) (y5 : Int32) (y6 : Int32) (y7 : Int32), zKeM σ0 y0 → zpc (k73 y0 y1 y2 y3 y4 y5 y6 y7) (fun r => zKeM σ0 (r))) {σ : zSt} {x1 : Int32} {x2 : Int32} {x3 : Int32} {x4 : Int32} {x5 : Int32} {x6 : Int32} {x7 : Int32} {x9 : Int32} {x10 : Int32} {s0 : Int32} {s1 : Int32} (h : zKeM σ0 σ) : zpc (fX12_sprites_244 k73 σ x1 x2 x3 x4 x5 x6 x7 x9 x10 s0 s1) (fun r => zKeM σ0 (r)) := by
  unfold fX12_sprites_244
  exact zpc_bv (fun v8 _ => w_fX12_sprites_250 hk73 _ _ _ _ _ _ _ _ _ _ _ _ _ h)
theorem w_fX12_sprites_212 {σ0 : zSt} {k73 : zSt → Int32 → Int32 → Int32 → Int32 → Int32 → Int32 → Int32 → Option (zSt)} (hk73 : ∀ (y0 : zSt) (y1 : Int32) (y2 : Int32) (y3 : Int32) (y4 : Int32) (y5 : Int32) (y6 : Int32) (y7 : Int32), zKeM σ0 y0 → zpc (k73 y0 y1 y2 y3 y4 y5 y6 y7) (fun r => zKeM σ0 (r))) {σ : zSt} {x1 : Int32} {x2 : Int32} {x3 : Int32} {x4 : Int32} {x5 : Int32} {x6 : Int32} {x7 : Int32} {x9 : Int32} {s0 : Int32} (h : zKeM σ0 σ) : zpc (fX12_sprites_212 k73 σ x1 x2 x3 x4 x5 x6 x7 x9 s0) (fun r => zKeM σ0 (r)) := by
  unfold fX12_sprites_212
  exact zpc_bi (w_fX12_video8 h) (fun σ9 v10 hσ9 => zpc_bi (w_fX12_bit hσ9) (fun σ11 v12 hσ11 => zpc_if (fun _ => w_fX12_sprites_244 hk73 hσ11) (fun _ => w_fX12_sprites_244 hk73 hσ11)))
theorem w_fX12_sprites_183 {σ0 : zSt} {k73 : zSt → Int32 → Int32 → Int32 → Int32 → Int32 → Int32 → Int32 → Option (zSt)} (hk73 : ∀ (y0 : zSt) (y1 : Int32) (y2 : Int32) (y3 : Int32) (y4 : Int32) (y5 : Int32) (y6 : Int32) (y7 : Int32), zKeM σ0 y0 → zpc (k73 y0 y1 y2 y3 y4 y5 y6 y7) (fun r => zKeM σ0 (r))) {σ : zSt} {x1 : Int32} {x2 : Int32} {x3 : Int32} {x4 : Int32} {x5 : Int32} {x6 : Int32} {x7 : Int32} {x9 : Int32} {s0 : Int32} {s1 : Int32} (h : zKeM σ0 σ) : zpc (fX12_sprites_183 k73 σ x1 x2 x3 x4 x5 x6 x7 x9 s0 s1) (fun r => zKeM σ0 (r)) := by
  unfold fX12_sprites_183
  exact zpc_bv (fun v13 _ => zpc_if (fun _ => zpc_ck (zpc_ck (w_fX12_sprites_212 hk73 h))) (fun _ => w_fX12_sprites_212 hk73 h))
theorem w_fX12_sprites_104 {σ0 : zSt} {k73 : zSt → Int32 → Int32 → Int32 → Int32 → Int32 → Int32 → Int32 → Option (zSt)} (hk73 : ∀ (y0 : zSt) (y1 : Int32) (y2 : Int32) (y3 : Int32) (y4 : Int32) (y5 : Int32) (y6 : Int32) (y7 : Int32), zKeM σ0 y0 → zpc (k73 y0 y1 y2 y3 y4 y5 y6 y7) (fun r => zKeM σ0 (r))) {σ : zSt} {x1 : Int32} {x2 : Int32} {x3 : Int32} {x4 : Int32} {x5 : Int32} {x6 : Int32} {x7 : Int32} {x8 : Int32} (h : zKeM σ0 σ) : zpc (fX12_sprites_104 k73 σ x1 x2 x3 x4 x5 x6 x7 x8) (fun r => zKeM σ0 (r)) := by
  unfold fX12_sprites_104
  exact zpc_bv (fun v14 _ => zpc_if (fun _ => zpc_if (fun _ => zpc_ck (zpc_ck (zpc_bs (zKeM.wi h (by decide)) (fun σ20 hσ20 => zpc_some hσ20)))) (fun _ => zpc_bv (fun v15 _ => zpc_bi (w_fX12_video8 h) (fun σ16 v17 hσ16 => zpc_bi (w_fX12_bit hσ16) (fun σ18 v19 hσ18 => zpc_if (fun _ => w_fX12_sprites_183 hk73 hσ18) (fun _ => w_fX12_sprites_183 hk73 hσ18)))))) (fun _ => w_fX12_sprites_349 hk73 h))
theorem w_fX12_sprites_73_body {σ0 : zSt} {k73 : zSt → Int32 → Int32 → Int32 → Int32 → Int32 → Int32 → Int32 → Option (zSt)} (hk73 : ∀ (y0 : zSt) (y1 : Int32) (y2 : Int32) (y3 : Int32) (y4 : Int32) (y5 : Int32) (y6 : Int32) (y7 : Int32), zKeM σ0 y0 → zpc (k73 y0 y1 y2 y3 y4 y5 y6 y7) (fun r => zKeM σ0 (r))) {σ : zSt} {x1 : Int32} {x2 : Int32} {x3 : Int32} {x4 : Int32} {x5 : Int32} {x6 : Int32} {x7 : Int32} (h : zKeM σ0 σ) : zpc (fX12_sprites_73_body k73 σ x1 x2 x3 x4 x5 x6 x7) (fun r => zKeM σ0 (r)) := by
  unfold fX12_sprites_73_body
  exact zpc_if (fun _ => zpc_some h) (fun _ => zpc_bi (w_fX12_video8 h) (fun σ21 v22 hσ21 => zpc_if (fun _ => w_fX12_sprites_104 hk73 hσ21) (fun _ => zpc_if (fun _ => zpc_some hσ21) (fun _ => w_fX12_sprites_104 hk73 hσ21))))
theorem w_fX12_sprites_73 {σ0 : zSt} : ∀ (n : Nat) (y0 : zSt) (y1 : Int32) (y2 : Int32) (y3 : Int32) (y4 : Int32) (y5 : Int32) (y6 : Int32) (y7 : Int32), zKeM σ0 y0 → zpc (fX12_sprites_73 n y0 y1 y2 y3 y4 y5 y6 y7) (fun r => zKeM σ0 (r)) := by
  intro n
  induction n with
  | zero => intro y0 y1 y2 y3 y4 y5 y6 y7 h; exact zpc_none
  | succ n ih => intro y0 y1 y2 y3 y4 y5 y6 y7 h; exact w_fX12_sprites_73_body ih h
theorem w_fX12_sprites_68 {σ0 : zSt} {σ : zSt} {x1 : Int32} {x2 : Int32} {x3 : Int32} {x4 : Int32} {x5 : Int32} {s0 : Int32} (h : zKeM σ0 σ) : zpc (fX12_sprites_68 σ x1 x2 x3 x4 x5 s0) (fun r => zKeM σ0 (r)) := by
  unfold fX12_sprites_68
  exact w_fX12_sprites_73 _ _ _ _ _ _ _ _ _ h
theorem w_fX12_sprites_48 {σ0 : zSt} {σ : zSt} {x1 : Int32} {x2 : Int32} {x3 : Int32} {s0 : Int32} (h : zKeM σ0 σ) : zpc (fX12_sprites_48 σ x1 x2 x3 s0) (fun r => zKeM σ0 (r)) := by
  unfold fX12_sprites_48
  exact zpc_bi (w_fX12_height h) (fun σ23 v24 hσ23 => zpc_if (fun _ => w_fX12_sprites_68 hσ23) (fun _ => w_fX12_sprites_68 hσ23))
theorem w_fX12_sprites_30 {σ0 : zSt} {σ : zSt} {x1 : Int32} {x2 : Int32} {s0 : Int32} (h : zKeM σ0 σ) : zpc (fX12_sprites_30 σ x1 x2 s0) (fun r => zKeM σ0 (r)) := by
  unfold fX12_sprites_30
  exact zpc_bi (w_fX12_bit h) (fun σ25 v26 hσ25 => zpc_if (fun _ => w_fX12_sprites_48 hσ25) (fun _ => w_fX12_sprites_48 hσ25))
theorem w_fX12_sprites {σ0 : zSt} {σ : zSt} {x1 : Int32} (h : zKeM σ0 σ) : zpc (fX12_sprites σ x1) (fun r => zKeM σ0 (r)) := by
  unfold fX12_sprites
  exact zpc_bi (w_fX12_reg h) (fun σ27 v28 hσ27 => zpc_ck (zpc_ck (zpc_bv (fun v29 _ => zpc_bi (w_fX12_bit hσ27) (fun σ30 v31 hσ30 => zpc_if (fun _ => w_fX12_sprites_30 hσ30) (fun _ => w_fX12_sprites_30 hσ30))))))
theorem w_fX12_colour_62 {σ0 : zSt} {σ : zSt} {s0 : Int32} (h : zKeM σ0 σ) : zpc (fX12_colour_62 σ s0) (fun r => zKeM σ0 (r.1)) := by
  unfold fX12_colour_62
  exact zpc_some h
theorem w_fX12_colour_252 {σ0 : zSt} {σ : zSt} {s0 : Int32} (h : zKeM σ0 σ) : zpc (fX12_colour_252 σ s0) (fun r => zKeM σ0 (r.1)) := by
  unfold fX12_colour_252
  exact zpc_some h
theorem w_fX12_colour_217 {σ0 : zSt} {σ : zSt} {x2 : Int32} (h : zKeM σ0 σ) : zpc (fX12_colour_217 σ x2) (fun r => zKeM σ0 (r.1)) := by
  unfold fX12_colour_217
  exact zpc_if (fun _ => zpc_ck (zpc_ck (zpc_ck (zpc_ck (w_fX12_colour_252 h))))) (fun _ => w_fX12_colour_252 h)
theorem w_fX12_colour {σ0 : zSt} {σ : zSt} {x1 : Int32} (h : zKeM σ0 σ) : zpc (fX12_colour σ x1) (fun r => zKeM σ0 (r.1)) := by
  unfold fX12_colour
  exact zpc_bi (w_fX12_mode h) (fun σ1 v2 hσ1 => zpc_if (fun _ => zpc_if (fun _ => zpc_ck (zpc_ck (zpc_ck (w_fX12_colour_62 hσ1)))) (fun _ => zpc_ck (w_fX12_colour_62 hσ1))) (fun _ => zpc_if (fun _ => w_fX12_colour_217 hσ1) (fun _ => zpc_if (fun _ => w_fX12_colour_217 hσ1) (fun _ => zpc_if (fun _ => w_fX12_colour_217 hσ1) (fun _ => zpc_if (fun _ => w_fX12_colour_217 hσ1) (fun _ => zpc_if (fun _ => w_fX12_colour_217 hσ1) (fun _ => zpc_if (fun _ => w_fX12_colour_217 hσ1) (fun _ => zpc_if (fun _ => w_fX12_colour_217 hσ1) (fun _ => zpc_if (fun _ => w_fX12_colour_217 hσ1) (fun _ => zpc_if (fun _ => w_fX12_colour_217 hσ1) (fun _ => zpc_if (fun _ => w_fX12_colour_217 hσ1) (fun _ => zpc_if (fun _ => w_fX12_colour_217 hσ1) (fun _ => zpc_if (fun _ => w_fX12_colour_217 hσ1) (fun _ => zpc_if (fun _ => w_fX12_colour_217 hσ1) (fun _ => zpc_if (fun _ => w_fX12_colour_217 hσ1) (fun _ => w_fX12_colour_217 hσ1))))))))))))))))
theorem w_fX12_old_48 {σ0 : zSt} {σ : zSt} (h : zKeM σ0 σ) : zpc (fX12_old_48 σ) (fun r => zKeM σ0 (r.1)) := by
  unfold fX12_old_48
  exact zpc_some h
theorem w_fX12_old_131 {σ0 : zSt} {σ : zSt} {s0 : Int32} (h : zKeM σ0 σ) : zpc (fX12_old_131 σ s0) (fun r => zKeM σ0 (r.1)) := by
  unfold fX12_old_131
  exact zpc_some h
theorem w_fX12_old_209 {σ0 : zSt} {σ : zSt} {s0 : Int32} (h : zKeM σ0 σ) : zpc (fX12_old_209 σ s0) (fun r => zKeM σ0 (r.1)) := by
  unfold fX12_old_209
  exact zpc_some h
theorem w_fX12_old_395 {σ0 : zSt} {σ : zSt} {s0 : Int32} (h : zKeM σ0 σ) : zpc (fX12_old_395 σ s0) (fun r => zKeM σ0 (r.1)) := by
  unfold fX12_old_395
  exact zpc_some h
theorem w_fX12_old_367 {σ0 : zSt} {σ : zSt} {x2 : Int32} {x6 : Int32} {x7 : Int32} (h : zKeM σ0 σ) : zpc (fX12_old_367 σ x2 x6 x7) (fun r => zKeM σ0 (r.1)) := by
  unfold fX12_old_367
  exact zpc_ck (zpc_if (fun _ => w_fX12_old_395 h) (fun _ => w_fX12_old_395 h))
theorem w_fX12_old {σ0 : zSt} {σ : zSt} {x1 : Int32} {x2 : Int32} (h : zKeM σ0 σ) : zpc (fX12_old σ x1 x2) (fun r => zKeM σ0 (r.1)) := by
  unfold fX12_old
  exact zpc_bi (w_fX12_reg h) (fun σ1 v2 hσ1 => zpc_ck (zpc_bv (fun v3 _ => zpc_bi (w_fX12_reg hσ1) (fun σ4 v5 hσ4 => zpc_ck (zpc_bv (fun v6 _ => zpc_bi (w_fX12_mode hσ4) (fun σ7 v8 hσ7 => zpc_if (fun _ => zpc_if (fun _ => w_fX12_old_48 hσ7) (fun _ => zpc_if (fun _ => zpc_ck (zpc_ck (zpc_bi (w_fX12_video8 hσ7) (fun σ38 v39 hσ38 => zpc_ck (zpc_bi (w_fX12_video8 hσ38) (fun σ40 v41 hσ40 => zpc_ck (zpc_bv (fun v42 _ => zpc_if (fun _ => zpc_bi (w_fX12_reg hσ40) (fun σ45 v46 hσ45 => w_fX12_old_131 hσ45)) (fun _ => zpc_bi (w_fX12_reg hσ40) (fun σ43 v44 hσ43 => w_fX12_old_131 hσ43)))))))))) (fun _ => w_fX12_old_48 hσ7))) (fun _ => zpc_ck (zpc_ck (zpc_bi (w_fX12_video8 hσ7) (fun σ9 v10 hσ9 => zpc_bi (w_fX12_mode hσ9) (fun σ11 v12 hσ11 => zpc_if (fun _ => zpc_ck (zpc_ck (zpc_ck (zpc_ck (zpc_bi (w_fX12_video8 hσ11) (fun σ36 v37 hσ36 => zpc_ck (zpc_if (fun _ => w_fX12_old_209 hσ36) (fun _ => w_fX12_old_209 hσ36)))))))) (fun _ => zpc_bi (w_fX12_mode hσ11) (fun σ13 v14 hσ13 => zpc_if (fun _ => zpc_ck (zpc_bi (w_fX12_video8 hσ13) (fun σ30 v31 hσ30 => zpc_bi (w_fX12_reg hσ30) (fun σ32 v33 hσ32 => zpc_ck (zpc_bi (w_fX12_video8 hσ32) (fun σ34 v35 hσ34 => w_fX12_old_367 hσ34)))))) (fun _ => zpc_ck (zpc_bv (fun v15 _ => zpc_bi (w_fX12_reg hσ13) (fun σ16 v17 hσ16 => zpc_ck (zpc_bv (fun v18 _ => zpc_bi (w_fX12_reg hσ16) (fun σ19 v20 hσ19 => zpc_ck (zpc_bv (fun v21 _ => zpc_bi (w_fX12_bit hσ19) (fun σ22 v23 hσ22 => zpc_ck (zpc_bi (w_fX12_video8 hσ22) (fun σ24 v25 hσ24 => zpc_bi (w_fX12_bit hσ24) (fun σ26 v27 hσ26 => zpc_ck (zpc_bi (w_fX12_video8 hσ26) (fun σ28 v29 hσ28 => w_fX12_old_367 hσ28)))))))))))))))))))))))))))))
theorem w_fX12_oldSprites_388 {σ0 : zSt} {k40 : zSt → Int32 → Int32 → Int32 → Int32 → Int32 → Option (zSt)} (hk40 : ∀ (y0 : zSt) (y1 : Int32) (y2 : Int32) (y3 : Int32) (y4 : Int32) (y5 : Int32), zKeM σ0 y0 → zpc (k40 y0 y1 y2 y3 y4 y5) (fun r => zKeM σ0 (r))) {σ : zSt} {x1 : Int32} {x2 : Int32} {x3 : Int32} {x4 : Int32} {x5 : Int32} (h : zKeM σ0 σ) : zpc (fX12_oldSprites_388 k40 σ x1 x2 x3 x4 x5) (fun r => zKeM σ0 (r)) := by
  unfold fX12_oldSprites_388
  exact zpc_bv (fun v1 _ => hk40 _ _ _ _ _ _ h)
theorem w_fX12_oldSprites_150 {σ0 : zSt} {σ : zSt} (h : zKeM σ0 σ) : zpc (fX12_oldSprites_150 σ) (fun r => zKeM σ0 (r)) := by
  unfold fX12_oldSprites_150
  exact zpc_some h
theorem w_fX12_oldSprites_382 {σ0 : zSt} {k40 : zSt → Int32 → Int32 → Int32 → Int32 → Int32 → Option (zSt)} (hk40 : ∀ (y0 : zSt) (y1 : Int32) (y2 : Int32) (y3 : Int32) (y4 : Int32) (y5 : Int32), zKeM σ0 y0 → zpc (k40 y0 y1 y2 y3 y4 y5) (fun r => zKeM σ0 (r))) {k231 : zSt → Int32 → Int32 → Int32 → Int32 → Int32 → Int32 → Int32 → Int32 → Int32 → Int32 → Option (zSt)} (hk231 : ∀ (y0 : zSt) (y1 : Int32) (y2 : Int32) (y3 : Int32) (y4 : Int32) (y5 : Int32) (y6 : Int32) (y7 : Int32) (y8 : Int32) (y9 : Int32) (y10 : Int32), zKeM σ0 y0 → zpc (k231 y0 y1 y2 y3 y4 y5 y6 y7 y8 y9 y10) (fun r => zKeM σ0 (r))) {σ : zSt} {x1 : Int32} {x2 : Int32} {x3 : Int32} {x4 : Int32} {x5 : Int32} {x8 : Int32} {x9 : Int32} {x10 : Int32} {x11 : Int32} {x12 : Int32} (h : zKeM σ0 σ) : zpc (fX12_oldSprites_382 k40 k231 σ x1 x2 x3 x4 x5 x8 x9 x10 x11 x12) (fun r => zKeM σ0 (r)) := by
  unfold fX12_oldSprites_382
  exact zpc_bv (fun v2 _ => hk231 _ _ _ _ _ _ _ _ _ _ _ h)
theorem w_fX12_oldSprites_350 {σ0 : zSt} {k40 : zSt → Int32 → Int32 → Int32 → Int32 → Int32 → Option (zSt)} (hk40 : ∀ (y0 : zSt) (y1 : Int32) (y2 : Int32) (y3 : Int32) (y4 : Int32) (y5 : Int32), zKeM σ0 y0 → zpc (k40 y0 y1 y2 y3 y4 y5) (fun r => zKeM σ0 (r))) {k231 : zSt → Int32 → Int32 → Int32 → Int32 → Int32 → Int32 → Int32 → Int32 → Int32 → Int32 → Option (zSt)} (hk231 : ∀ (y0 : zSt) (y1 : Int32) (y2 : Int32) (y3 : Int32) (y4 : Int32) (y5 : Int32) (y6 : Int32) (y7 : Int32) (y8 : Int32) (y9 : Int32) (y10 : Int32), zKeM σ0 y0 → zpc (k231 y0 y1 y2 y3 y4 y5 y6 y7 y8 y9 y10) (fun r => zKeM σ0 (r))) {σ : zSt} {x1 : Int32} {x2 : Int32} {x3 : Int32} {x4 : Int32} {x5 : Int32} {x8 : Int32} {x9 : Int32} {x10 : Int32} {x11 : Int32} {x12 : Int32} {x15 : Int32} (h : zKeM σ0 σ) : zpc (fX12_oldSprites_350 k40 k231 σ x1 x2 x3 x4 x5 x8 x9 x10 x11 x12 x15) (fun r => zKeM σ0 (r)) := by
  unfold fX12_oldSprites_350
  exact zpc_ck (zpc_bs (zKeM.wi h (by decide)) (fun σ3 hσ3 => zpc_if (fun _ => w_fX12_oldSprites_382 hk40 hk231 hσ3) (fun _ => zpc_ck (zpc_if (fun _ => zpc_ck (zpc_bs (zKeM.wi hσ3 (by decide)) (fun σ4 hσ4 => w_fX12_oldSprites_382 hk40 hk231 hσ4))) (fun _ => w_fX12_oldSprites_382 hk40 hk231 hσ3)))))
theorem w_fX12_oldSprites_283 {σ0 : zSt} {k40 : zSt → Int32 → Int32 → Int32 → Int32 → Int32 → Option (zSt)} (hk40 : ∀ (y0 : zSt) (y1 : Int32) (y2 : Int32) (y3 : Int32) (y4 : Int32) (y5 : Int32), zKeM σ0 y0 → zpc (k40 y0 y1 y2 y3 y4 y5) (fun r => zKeM σ0 (r))) {k231 : zSt → Int32 → Int32 → Int32 → Int32 → Int32 → Int32 → Int32 → Int32 → Int32 → Int32 → Option (zSt)} (hk231 : ∀ (y0 : zSt) (y1 : Int32) (y2 : Int32) (y3 : Int32) (y4 : Int32) (y5 : Int32) (y6 : Int32) (y7 : Int32) (y8 : Int32) (y9 : Int32) (y10 : Int32), zKeM σ0 y0 → zpc (k231 y0 y1 y2 y3 y4 y5 y6 y7 y8 y9 y10) (fun r => zKeM σ0 (r))) {σ : zSt} {x1 : Int32} {x2 : Int32} {x3 : Int32} {x4 : Int32} {x5 : Int32} {x8 : Int32} {x9 : Int32} {x10 : Int32} {x11 : Int32} {x12 : Int32} {x13 : Int32} {s0 : Int32} {s1 : Int32} (h : zKeM σ0 σ) : zpc (fX12_oldSprites_283 k40 k231 σ x1 x2 x3 x4 x5 x8 x9 x10 x11 x12 x13 s0 s1) (fun r => zKeM σ0 (r)) := by
  unfold fX12_oldSprites_283
  exact zpc_bi (w_fX12_video8 h) (fun σ5 v6 hσ5 => zpc_ck (zpc_bv (fun v7 _ => zpc_bv (fun v8 _ => zpc_if (fun _ => w_fX12_oldSprites_382 hk40 hk231 hσ5) (fun _ => zpc_if (fun _ => w_fX12_oldSprites_382 hk40 hk231 hσ5) (fun _ => zpc_if (fun _ => zpc_ck (zpc_if (fun _ => w_fX12_oldSprites_350 hk40 hk231 hσ5) (fun _ => zpc_ck (zpc_ck (zpc_bs (zKeM.wi hσ5 (by decide)) (fun σ9 hσ9 => w_fX12_oldSprites_350 hk40 hk231 hσ9)))))) (fun _ => w_fX12_oldSprites_382 hk40 hk231 hσ5)))))))
theorem w_fX12_oldSprites_231_body {σ0 : zSt} {k40 : zSt → Int32 → Int32 → Int32 → Int32 → Int32 → Option (zSt)} (hk40 : ∀ (y0 : zSt) (y1 : Int32) (y2 : Int32) (y3 : Int32) (y4 : Int32) (y5 : Int32), zKeM σ0 y0 → zpc (k40 y0 y1 y2 y3 y4 y5) (fun r => zKeM σ0 (r))) {k231 : zSt → Int32 → Int32 → Int32 → Int32 → Int32 → Int32 → Int32 → Int32 → Int32 → Int32 → Option (zSt)} (hk231 : ∀ (y0 : zSt) (y1 : Int32) (y2 : Int32) (y3 : Int32) (y4 : Int32) (y5 : Int32) (y6 : Int32) (y7 : Int32) (y8 : Int32) (y9 : Int32) (y10 : Int32), zKeM σ0 y0 → zpc (k231 y0 y1 y2 y3 y4 y5 y6 y7 y8 y9 y10) (fun r => zKeM σ0 (r))) {σ : zSt} {x1 : Int32} {x2 : Int32} {x3 : Int32} {x4 : Int32} {x5 : Int32} {x8 : Int32} {x9 : Int32} {x10 : Int32} {x11 : Int32} {x12 : Int32} (h : zKeM σ0 σ) : zpc (fX12_oldSprites_231_body k40 k231 σ x1 x2 x3 x4 x5 x8 x9 x10 x11 x12) (fun r => zKeM σ0 (r)) := by
  unfold fX12_oldSprites_231_body
  exact zpc_if (fun _ => w_fX12_oldSprites_388 hk40 h) (fun _ => zpc_ck (zpc_bv (fun v10 _ => zpc_bi (w_fX12_reg h) (fun σ11 v12 hσ11 => zpc_ck (zpc_ck (zpc_if (fun _ => w_fX12_oldSprites_283 hk40 hk231 hσ11) (fun _ => w_fX12_oldSprites_283 hk40 hk231 hσ11)))))))
theorem w_fX12_oldSprites_231 {σ0 : zSt} {k40 : zSt → Int32 → Int32 → Int32 → Int32 → Int32 → Option (zSt)} (hk40 : ∀ (y0 : zSt) (y1 : Int32) (y2 : Int32) (y3 : Int32) (y4 : Int32) (y5 : Int32), zKeM σ0 y0 → zpc (k40 y0 y1 y2 y3 y4 y5) (fun r => zKeM σ0 (r))) : ∀ (n : Nat) (y0 : zSt) (y1 : Int32) (y2 : Int32) (y3 : Int32) (y4 : Int32) (y5 : Int32) (y6 : Int32) (y7 : Int32) (y8 : Int32) (y9 : Int32) (y10 : Int32), zKeM σ0 y0 → zpc (fX12_oldSprites_231 k40 n y0 y1 y2 y3 y4 y5 y6 y7 y8 y9 y10) (fun r => zKeM σ0 (r)) := by
  intro n
  induction n with
  | zero => intro y0 y1 y2 y3 y4 y5 y6 y7 y8 y9 y10 h; exact zpc_none
  | succ n ih => intro y0 y1 y2 y3 y4 y5 y6 y7 y8 y9 y10 h; exact w_fX12_oldSprites_231_body hk40 ih h
theorem w_fX12_oldSprites_225 {σ0 : zSt} {k40 : zSt → Int32 → Int32 → Int32 → Int32 → Int32 → Option (zSt)} (hk40 : ∀ (y0 : zSt) (y1 : Int32) (y2 : Int32) (y3 : Int32) (y4 : Int32) (y5 : Int32), zKeM σ0 y0 → zpc (k40 y0 y1 y2 y3 y4 y5) (fun r => zKeM σ0 (r))) {σ : zSt} {x1 : Int32} {x2 : Int32} {x3 : Int32} {x4 : Int32} {x5 : Int32} {x8 : Int32} {x9 : Int32} {x10 : Int32} {s0 : Int32} {s1 : Int32} (h : zKeM σ0 σ) : zpc (fX12_oldSprites_225 k40 σ x1 x2 x3 x4 x5 x8 x9 x10 s0 s1) (fun r => zKeM σ0 (r)) := by
  unfold fX12_oldSprites_225
  exact zpc_bv (fun v13 _ => w_fX12_oldSprites_231 hk40 _ _ _ _ _ _ _ _ _ _ _ _ h)
theorem w_fX12_oldSprites_183 {σ0 : zSt} {k40 : zSt → Int32 → Int32 → Int32 → Int32 → Int32 → Option (zSt)} (hk40 : ∀ (y0 : zSt) (y1 : Int32) (y2 : Int32) (y3 : Int32) (y4 : Int32) (y5 : Int32), zKeM σ0 y0 → zpc (k40 y0 y1 y2 y3 y4 y5) (fun r => zKeM σ0 (r))) {σ : zSt} {x1 : Int32} {x2 : Int32} {x3 : Int32} {x4 : Int32} {x5 : Int32} {x6 : Int32} {x8 : Int32} {s0 : Int32} (h : zKeM σ0 σ) : zpc (fX12_oldSprites_183 k40 σ x1 x2 x3 x4 x5 x6 x8 s0) (fun r => zKeM σ0 (r)) := by
  unfold fX12_oldSprites_183
  exact zpc_bi (w_fX12_video8 h) (fun σ14 v15 hσ14 => zpc_bv (fun v16 _ => zpc_bi (w_fX12_video8 hσ14) (fun σ17 v18 hσ17 => zpc_bi (w_fX12_video8 hσ17) (fun σ19 v20 hσ19 => zpc_if (fun _ => w_fX12_oldSprites_225 hk40 hσ19) (fun _ => w_fX12_oldSprites_225 hk40 hσ19)))))
theorem w_fX12_oldSprites_40_body {σ0 : zSt} {k40 : zSt → Int32 → Int32 → Int32 → Int32 → Int32 → Option (zSt)} (hk40 : ∀ (y0 : zSt) (y1 : Int32) (y2 : Int32) (y3 : Int32) (y4 : Int32) (y5 : Int32), zKeM σ0 y0 → zpc (k40 y0 y1 y2 y3 y4 y5) (fun r => zKeM σ0 (r))) {σ : zSt} {x1 : Int32} {x2 : Int32} {x3 : Int32} {x4 : Int32} {x5 : Int32} (h : zKeM σ0 σ) : zpc (fX12_oldSprites_40_body k40 σ x1 x2 x3 x4 x5) (fun r => zKeM σ0 (r)) := by
  unfold fX12_oldSprites_40_body
  exact zpc_if (fun _ => zpc_some h) (fun _ => zpc_bi (w_fX12_reg h) (fun σ21 v22 hσ21 => zpc_ck (zpc_bv (fun v23 _ => zpc_bi (w_fX12_video8 hσ21) (fun σ24 v25 hσ24 => zpc_if (fun _ => zpc_some hσ24) (fun _ => zpc_bv (fun v26 _ => zpc_if (fun _ => zpc_if (fun _ => zpc_ck (zpc_if (fun _ => zpc_ck (zpc_ck (zpc_bs (zKeM.wi hσ24 (by decide)) (fun σ32 hσ32 => w_fX12_oldSprites_150 hσ32)))) (fun _ => w_fX12_oldSprites_150 hσ24))) (fun _ => zpc_bv (fun v27 _ => zpc_if (fun _ => zpc_bi (w_fX12_video8 hσ24) (fun σ30 v31 hσ30 => w_fX12_oldSprites_183 hk40 hσ30)) (fun _ => zpc_bi (w_fX12_video8 hσ24) (fun σ28 v29 hσ28 => w_fX12_oldSprites_183 hk40 hσ28))))) (fun _ => w_fX12_oldSprites_388 hk40 hσ24))))))))
theorem w_fX12_oldSprites_40 {σ0 : zSt} : ∀ (n : Nat) (y0 : zSt) (y1 : Int32) (y2 : Int32) (y3 : Int32) (y4 : Int32) (y5 : Int32), zKeM σ0 y0 → zpc (fX12_oldSprites_40 n y0 y1 y2 y3 y4 y5) (fun r => zKeM σ0 (r)) := by
  intro n
  induction n with
  | zero => intro y0 y1 y2 y3 y4 y5 h; exact zpc_none
  | succ n ih => intro y0 y1 y2 y3 y4 y5 h; exact w_fX12_oldSprites_40_body ih h
theorem w_fX12_oldSprites_33 {σ0 : zSt} {σ : zSt} {x1 : Int32} {x2 : Int32} {s0 : Int32} (h : zKeM σ0 σ) : zpc (fX12_oldSprites_33 σ x1 x2 s0) (fun r => zKeM σ0 (r)) := by
  unfold fX12_oldSprites_33
  exact w_fX12_oldSprites_40 _ _ _ _ _ _ _ h
theorem w_fX12_oldSprites_15 {σ0 : zSt} {σ : zSt} {x1 : Int32} {s0 : Int32} (h : zKeM σ0 σ) : zpc (fX12_oldSprites_15 σ x1 s0) (fun r => zKeM σ0 (r)) := by
  unfold fX12_oldSprites_15
  exact zpc_bi (w_fX12_bit h) (fun σ33 v34 hσ33 => zpc_if (fun _ => w_fX12_oldSprites_33 hσ33) (fun _ => w_fX12_oldSprites_33 hσ33))
theorem w_fX12_oldSprites {σ0 : zSt} {σ : zSt} {x1 : Int32} (h : zKeM σ0 σ) : zpc (fX12_oldSprites σ x1) (fun r => zKeM σ0 (r)) := by
  unfold fX12_oldSprites
  exact zpc_bi (w_fX12_bit h) (fun σ35 v36 hσ35 => zpc_if (fun _ => w_fX12_oldSprites_15 hσ35) (fun _ => w_fX12_oldSprites_15 hσ35))
theorem w_fX12_draws_302_body {σ0 : zSt} {k302 : zSt → Int32 → Int32 → Option (zSt)} (hk302 : ∀ (y0 : zSt) (y1 : Int32) (y2 : Int32), zKeM σ0 y0 → zpc (k302 y0 y1 y2) (fun r => zKeM σ0 (r))) {σ : zSt} {x1 : Int32} {x3 : Int32} (h : zKeM σ0 σ) : zpc (fX12_draws_302_body k302 σ x1 x3) (fun r => zKeM σ0 (r)) := by
  unfold fX12_draws_302_body
  exact zpc_if (fun _ => zpc_some h) (fun _ => zpc_ck (zpc_bi (w_fX12_colour h) (fun σ1 v2 hσ1 => zpc_ck (zpc_bs (zKeM.wi hσ1 (by decide)) (fun σ3 hσ3 => zpc_bv (fun v4 _ => hk302 _ _ _ hσ3))))))
theorem w_fX12_draws_302 {σ0 : zSt} : ∀ (n : Nat) (y0 : zSt) (y1 : Int32) (y2 : Int32), zKeM σ0 y0 → zpc (fX12_draws_302 n y0 y1 y2) (fun r => zKeM σ0 (r)) := by
  intro n
  induction n with
  | zero => intro y0 y1 y2 h; exact zpc_none
  | succ n ih => intro y0 y1 y2 h; exact w_fX12_draws_302_body ih h
theorem w_fX12_draws_300 {σ0 : zSt} {σ : zSt} {x1 : Int32} (h : zKeM σ0 σ) : zpc (fX12_draws_300 σ x1) (fun r => zKeM σ0 (r)) := by
  unfold fX12_draws_300
  exact w_fX12_draws_302 _ _ _ _ h
theorem w_fX12_draws_244 {σ0 : zSt} {k213 : zSt → Int32 → Int32 → Int32 → Option (zSt)} (hk213 : ∀ (y0 : zSt) (y1 : Int32) (y2 : Int32) (y3 : Int32), zKeM σ0 y0 → zpc (k213 y0 y1 y2 y3) (fun r => zKeM σ0 (r))) {σ : zSt} {x1 : Int32} {x2 : Int32} {x3 : Int32} {s0 : Int32} {s1 : Int32} (h : zKeM σ0 σ) : zpc (fX12_draws_244 k213 σ x1 x2 x3 s0 s1) (fun r => zKeM σ0 (r)) := by
  unfold fX12_draws_244
  exact zpc_ck (zpc_bs (zKeM.wi h (by decide)) (fun σ5 hσ5 => zpc_bv (fun v6 _ => hk213 _ _ _ _ hσ5)))
theorem w_fX12_draws_294 {σ0 : zSt} {k266 : zSt → Int32 → Int32 → Option (zSt)} (hk266 : ∀ (y0 : zSt) (y1 : Int32) (y2 : Int32), zKeM σ0 y0 → zpc (k266 y0 y1 y2) (fun r => zKeM σ0 (r))) {σ : zSt} {x1 : Int32} {x3 : Int32} (h : zKeM σ0 σ) : zpc (fX12_draws_294 k266 σ x1 x3) (fun r => zKeM σ0 (r)) := by
  unfold fX12_draws_294
  exact zpc_bv (fun v7 _ => hk266 _ _ _ h)
theorem w_fX12_draws_266_body {σ0 : zSt} {k266 : zSt → Int32 → Int32 → Option (zSt)} (hk266 : ∀ (y0 : zSt) (y1 : Int32) (y2 : Int32), zKeM σ0 y0 → zpc (k266 y0 y1 y2) (fun r => zKeM σ0 (r))) {σ : zSt} {x1 : Int32} {x3 : Int32} (h : zKeM σ0 σ) : zpc (fX12_draws_266_body k266 σ x1 x3) (fun r => zKeM σ0 (r)) := by
  unfold fX12_draws_266_body
  exact zpc_if (fun _ => w_fX12_draws_300 h) (fun _ => zpc_ck (zpc_if (fun _ => w_fX12_draws_294 hk266 h) (fun _ => zpc_ck (zpc_ck (zpc_bs (zKeM.wi h (by decide)) (fun σ8 hσ8 => w_fX12_draws_294 hk266 hσ8))))))
theorem w_fX12_draws_266 {σ0 : zSt} : ∀ (n : Nat) (y0 : zSt) (y1 : Int32) (y2 : Int32), zKeM σ0 y0 → zpc (fX12_draws_266 n y0 y1 y2) (fun r => zKeM σ0 (r)) := by
  intro n
  induction n with
  | zero => intro y0 y1 y2 h; exact zpc_none
  | succ n ih => intro y0 y1 y2 h; exact w_fX12_draws_266_body ih h
theorem w_fX12_draws_264 {σ0 : zSt} {σ : zSt} {x1 : Int32} (h : zKeM σ0 σ) : zpc (fX12_draws_264 σ x1) (fun r => zKeM σ0 (r)) := by
  unfold fX12_draws_264
  exact w_fX12_draws_266 _ _ _ _ h
theorem w_fX12_draws_213_body {σ0 : zSt} {k213 : zSt → Int32 → Int32 → Int32 → Option (zSt)} (hk213 : ∀ (y0 : zSt) (y1 : Int32) (y2 : Int32) (y3 : Int32), zKeM σ0 y0 → zpc (k213 y0 y1 y2 y3) (fun r => zKeM σ0 (r))) {σ : zSt} {x1 : Int32} {x2 : Int32} {x3 : Int32} (h : zKeM σ0 σ) : zpc (fX12_draws_213_body k213 σ x1 x2 x3) (fun r => zKeM σ0 (r)) := by
  unfold fX12_draws_213_body
  exact zpc_if (fun _ => zpc_bi (w_fX12_mode h) (fun σ9 v10 hσ9 => zpc_if (fun _ => w_fX12_draws_264 hσ9) (fun _ => zpc_bu (w_fX12_oldSprites hσ9) (fun σ11 hσ11 => w_fX12_draws_264 hσ11)))) (fun _ => zpc_bi (w_fX12_old h) (fun σ12 v13 hσ12 => zpc_if (fun _ => w_fX12_draws_244 hk213 hσ12) (fun _ => w_fX12_draws_244 hk213 hσ12)))
theorem w_fX12_draws_213 {σ0 : zSt} : ∀ (n : Nat) (y0 : zSt) (y1 : Int32) (y2 : Int32) (y3 : Int32), zKeM σ0 y0 → zpc (fX12_draws_213 n y0 y1 y2 y3) (fun r => zKeM σ0 (r)) := by
  intro n
  induction n with
  | zero => intro y0 y1 y2 y3 h; exact zpc_none
  | succ n ih => intro y0 y1 y2 y3 h; exact w_fX12_draws_213_body ih h
theorem w_fX12_draws_200 {σ0 : zSt} {σ : zSt} {x1 : Int32} {x2 : Int32} (h : zKeM σ0 σ) : zpc (fX12_draws_200 σ x1 x2) (fun r => zKeM σ0 (r)) := by
  unfold fX12_draws_200
  exact zpc_bi (w_fX12_bit h) (fun σ14 v15 hσ14 => zpc_if (fun _ => w_fX12_draws_213 _ _ _ _ _ hσ14) (fun _ => w_fX12_draws_300 hσ14))
theorem w_fX12_draws_160 {σ0 : zSt} {k123 : zSt → Int32 → Int32 → Int32 → Option (zSt)} (hk123 : ∀ (y0 : zSt) (y1 : Int32) (y2 : Int32) (y3 : Int32), zKeM σ0 y0 → zpc (k123 y0 y1 y2 y3) (fun r => zKeM σ0 (r))) {σ : zSt} {x1 : Int32} {x2 : Int32} {x3 : Int32} (h : zKeM σ0 σ) : zpc (fX12_draws_160 k123 σ x1 x2 x3) (fun r => zKeM σ0 (r)) := by
  unfold fX12_draws_160
  exact zpc_bv (fun v16 _ => hk123 _ _ _ _ h)
theorem w_fX12_draws_197 {σ0 : zSt} {σ : zSt} {x1 : Int32} (h : zKeM σ0 σ) : zpc (fX12_draws_197 σ x1) (fun r => zKeM σ0 (r)) := by
  unfold fX12_draws_197
  exact w_fX12_draws_300 h
theorem w_fX12_draws_168_body {σ0 : zSt} {k168 : zSt → Int32 → Int32 → Int32 → Option (zSt)} (hk168 : ∀ (y0 : zSt) (y1 : Int32) (y2 : Int32) (y3 : Int32), zKeM σ0 y0 → zpc (k168 y0 y1 y2 y3) (fun r => zKeM σ0 (r))) {σ : zSt} {x1 : Int32} {x2 : Int32} {x3 : Int32} (h : zKeM σ0 σ) : zpc (fX12_draws_168_body k168 σ x1 x2 x3) (fun r => zKeM σ0 (r)) := by
  unfold fX12_draws_168_body
  exact zpc_if (fun _ => w_fX12_draws_197 h) (fun _ => zpc_bi (w_fX12_bit h) (fun σ17 v18 hσ17 => zpc_if (fun _ => zpc_ck (zpc_bs (zKeM.wi hσ17 (by decide)) (fun σ19 hσ19 => zpc_bv (fun v20 _ => hk168 _ _ _ _ hσ19)))) (fun _ => w_fX12_draws_197 hσ17)))
end ZJN1
section ZJN2
theorem w_fX12_draws_168 {σ0 : zSt} : ∀ (n : Nat) (y0 : zSt) (y1 : Int32) (y2 : Int32) (y3 : Int32), zKeM σ0 y0 → zpc (fX12_draws_168 n y0 y1 y2 y3) (fun r => zKeM σ0 (r)) := by
  intro n
  induction n with
  | zero => intro y0 y1 y2 y3 h; exact zpc_none
  | succ n ih => intro y0 y1 y2 y3 h; exact w_fX12_draws_168_body ih h
theorem w_fX12_draws_123_body {σ0 : zSt} {k123 : zSt → Int32 → Int32 → Int32 → Option (zSt)} (hk123 : ∀ (y0 : zSt) (y1 : Int32) (y2 : Int32) (y3 : Int32), zKeM σ0 y0 → zpc (k123 y0 y1 y2 y3) (fun r => zKeM σ0 (r))) {σ : zSt} {x1 : Int32} {x2 : Int32} {x3 : Int32} (h : zKeM σ0 σ) : zpc (fX12_draws_123_body k123 σ x1 x2 x3) (fun r => zKeM σ0 (r)) := by
  unfold fX12_draws_123_body
  exact zpc_if (fun _ => w_fX12_draws_168 _ _ _ _ _ h) (fun _ => zpc_ck (zpc_if (fun _ => w_fX12_draws_160 hk123 h) (fun _ => zpc_ck (zpc_if (fun _ => zpc_ck (zpc_ck (zpc_bs (zKeM.wi h (by decide)) (fun σ21 hσ21 => w_fX12_draws_160 hk123 hσ21)))) (fun _ => w_fX12_draws_160 hk123 h)))))
theorem w_fX12_draws_123 {σ0 : zSt} : ∀ (n : Nat) (y0 : zSt) (y1 : Int32) (y2 : Int32) (y3 : Int32), zKeM σ0 y0 → zpc (fX12_draws_123 n y0 y1 y2 y3) (fun r => zKeM σ0 (r)) := by
  intro n
  induction n with
  | zero => intro y0 y1 y2 y3 h; exact zpc_none
  | succ n ih => intro y0 y1 y2 y3 h; exact w_fX12_draws_123_body ih h
theorem w_fX12_draws_97_body {σ0 : zSt} {k97 : zSt → Int32 → Int32 → Int32 → Option (zSt)} (hk97 : ∀ (y0 : zSt) (y1 : Int32) (y2 : Int32) (y3 : Int32), zKeM σ0 y0 → zpc (k97 y0 y1 y2 y3) (fun r => zKeM σ0 (r))) {σ : zSt} {x1 : Int32} {x2 : Int32} {x3 : Int32} (h : zKeM σ0 σ) : zpc (fX12_draws_97_body k97 σ x1 x2 x3) (fun r => zKeM σ0 (r)) := by
  unfold fX12_draws_97_body
  exact zpc_if (fun _ => zpc_bu (w_fX12_sprites h) (fun σ22 hσ22 => w_fX12_draws_123 _ _ _ _ _ hσ22)) (fun _ => zpc_bu (w_fX12_tile h) (fun σ23 hσ23 => zpc_bv (fun v24 _ => hk97 _ _ _ _ hσ23)))
theorem w_fX12_draws_97 {σ0 : zSt} : ∀ (n : Nat) (y0 : zSt) (y1 : Int32) (y2 : Int32) (y3 : Int32), zKeM σ0 y0 → zpc (fX12_draws_97 n y0 y1 y2 y3) (fun r => zKeM σ0 (r)) := by
  intro n
  induction n with
  | zero => intro y0 y1 y2 y3 h; exact zpc_none
  | succ n ih => intro y0 y1 y2 y3 h; exact w_fX12_draws_97_body ih h
theorem w_fX12_draws_35_body {σ0 : zSt} {k35 : zSt → Int32 → Int32 → Int32 → Option (zSt)} (hk35 : ∀ (y0 : zSt) (y1 : Int32) (y2 : Int32) (y3 : Int32), zKeM σ0 y0 → zpc (k35 y0 y1 y2 y3) (fun r => zKeM σ0 (r))) {σ : zSt} {x1 : Int32} {x2 : Int32} {x3 : Int32} (h : zKeM σ0 σ) : zpc (fX12_draws_35_body k35 σ x1 x2 x3) (fun r => zKeM σ0 (r)) := by
  unfold fX12_draws_35_body
  exact zpc_if (fun _ => zpc_bi (w_fX12_bit h) (fun σ25 v26 hσ25 => zpc_if (fun _ => zpc_bi (w_fX12_mode hσ25) (fun σ27 v28 hσ27 => zpc_if (fun _ => w_fX12_draws_97 _ _ _ _ _ hσ27) (fun _ => w_fX12_draws_200 hσ27))) (fun _ => w_fX12_draws_200 hσ25))) (fun _ => zpc_ck (zpc_bs (zKeM.wi h (by decide)) (fun σ29 hσ29 => zpc_ck (zpc_bs (zKeM.wi hσ29 (by decide)) (fun σ30 hσ30 => zpc_ck (zpc_bs (zKeM.wi hσ30 (by decide)) (fun σ31 hσ31 => zpc_ck (zpc_bs (zKeM.wi hσ31 (by decide)) (fun σ32 hσ32 => zpc_bv (fun v33 _ => hk35 _ _ _ _ hσ32))))))))))
theorem w_fX12_draws_35 {σ0 : zSt} : ∀ (n : Nat) (y0 : zSt) (y1 : Int32) (y2 : Int32) (y3 : Int32), zKeM σ0 y0 → zpc (fX12_draws_35 n y0 y1 y2 y3) (fun r => zKeM σ0 (r)) := by
  intro n
  induction n with
  | zero => intro y0 y1 y2 y3 h; exact zpc_none
  | succ n ih => intro y0 y1 y2 y3 h; exact w_fX12_draws_35_body ih h
theorem w_fX12_draws_32 {σ0 : zSt} {σ : zSt} {x1 : Int32} {s0 : Int32} (h : zKeM σ0 σ) : zpc (fX12_draws_32 σ x1 s0) (fun r => zKeM σ0 (r)) := by
  unfold fX12_draws_32
  exact w_fX12_draws_35 _ _ _ _ _ h
theorem w_fX12_draws {σ0 : zSt} {σ : zSt} {x1 : Int32} (h : zKeM σ0 σ) : zpc (fX12_draws σ x1) (fun r => zKeM σ0 (r)) := by
  unfold fX12_draws
  exact zpc_bi (w_fX12_mode h) (fun σ34 v35 hσ34 => zpc_if (fun _ => zpc_bi (w_fX12_reg hσ34) (fun σ38 v39 hσ38 => zpc_ck (w_fX12_draws_32 hσ38))) (fun _ => zpc_bi (w_fX12_reg hσ34) (fun σ36 v37 hσ36 => zpc_ck (w_fX12_draws_32 hσ36))))
theorem w_fX12_planned_113 {σ0 : zSt} {σ : zSt} (h : zKeM σ0 σ) : zpc (fX12_planned_113 σ) (fun r => zKeM σ0 (r)) := by
  unfold fX12_planned_113
  exact zpc_some h
theorem w_fX12_planned_68_body {σ0 : zSt} {k0 : zSt → Option (zSt)} (hk0 : ∀ (y0 : zSt), zKeM σ0 y0 → zpc (k0 y0) (fun r => zKeM σ0 (r))) {k68 : zSt → Int32 → Option (zSt)} (hk68 : ∀ (y0 : zSt) (y1 : Int32), zKeM σ0 y0 → zpc (k68 y0 y1) (fun r => zKeM σ0 (r))) {σ : zSt} {x1 : Int32} (h : zKeM σ0 σ) : zpc (fX12_planned_68_body k0 k68 σ x1) (fun r => zKeM σ0 (r)) := by
  unfold fX12_planned_68_body
  exact zpc_ck (zpc_if (fun _ => hk0 _ h) (fun _ => zpc_ck (zpc_ck (zpc_bs (zKeM.wi h (by decide)) (fun σ1 hσ1 => zpc_bv (fun v2 _ => hk68 _ _ hσ1))))))
theorem w_fX12_planned_68 {σ0 : zSt} {k0 : zSt → Option (zSt)} (hk0 : ∀ (y0 : zSt), zKeM σ0 y0 → zpc (k0 y0) (fun r => zKeM σ0 (r))) : ∀ (n : Nat) (y0 : zSt) (y1 : Int32), zKeM σ0 y0 → zpc (fX12_planned_68 k0 n y0 y1) (fun r => zKeM σ0 (r)) := by
  intro n
  induction n with
  | zero => intro y0 y1 h; exact zpc_none
  | succ n ih => intro y0 y1 h; exact w_fX12_planned_68_body hk0 ih h
theorem w_fX12_planned_0_body {σ0 : zSt} {k0 : zSt → Option (zSt)} (hk0 : ∀ (y0 : zSt), zKeM σ0 y0 → zpc (k0 y0) (fun r => zKeM σ0 (r))) {σ : zSt} (h : zKeM σ0 σ) : zpc (fX12_planned_0_body k0 σ) (fun r => zKeM σ0 (r)) := by
  unfold fX12_planned_0_body
  exact zpc_ck (zpc_if (fun _ => w_fX12_planned_113 h) (fun _ => zpc_ck (zpc_ck (zpc_if (fun _ => w_fX12_planned_113 h) (fun _ => zpc_ck (zpc_ck (zpc_ck (zpc_bs (zKeM.wi h (by decide)) (fun σ3 hσ3 => zpc_ck (zpc_ck (zpc_bs (zKeM.wi hσ3 (by decide)) (fun σ4 hσ4 => w_fX12_planned_68 hk0 _ _ _ hσ4))))))))))))
theorem w_fX12_planned_0 {σ0 : zSt} : ∀ (n : Nat) (y0 : zSt), zKeM σ0 y0 → zpc (fX12_planned_0 n y0) (fun r => zKeM σ0 (r)) := by
  intro n
  induction n with
  | zero => intro y0 h; exact zpc_none
  | succ n ih => intro y0 h; exact w_fX12_planned_0_body ih h
theorem w_fX12_planned {σ0 : zSt} {σ : zSt} (h : zKeM σ0 σ) : zpc (fX12_planned σ) (fun r => zKeM σ0 (r)) := by
  unfold fX12_planned
  exact w_fX12_planned_0 _ _ h
theorem w_fX12_ends_195 {σ0 : zSt} {σ : zSt} (h : zKeM σ0 σ) : zpc (fX12_ends_195 σ) (fun r => zKeM σ0 (r)) := by
  unfold fX12_ends_195
  exact zpc_some h
theorem w_fX12_ends_169 {σ0 : zSt} {σ : zSt} {x1 : Int32} (h : zKeM σ0 σ) : zpc (fX12_ends_169 σ x1) (fun r => zKeM σ0 (r)) := by
  unfold fX12_ends_169
  exact zpc_ck (zpc_if (fun _ => zpc_ck (zpc_ck (zpc_bs (zKeM.wi h (by decide)) (fun σ1 hσ1 => w_fX12_ends_195 hσ1)))) (fun _ => w_fX12_ends_195 h))
theorem w_fX12_ends_131 {σ0 : zSt} {σ : zSt} {x1 : Int32} {s0 : Int32} {s1 : Int32} (h : zKeM σ0 σ) : zpc (fX12_ends_131 σ x1 s0 s1) (fun r => zKeM σ0 (r)) := by
  unfold fX12_ends_131
  exact zpc_if (fun _ => zpc_ck (zpc_bs (zKeM.wi h (by decide)) (fun σ2 hσ2 => zpc_bi (w_fX12_reg hσ2) (fun σ3 v4 hσ3 => zpc_ck (zpc_bs (zKeM.wi hσ3 (by decide)) (fun σ5 hσ5 => zpc_ck (zpc_ck (zpc_bs (zKeM.wl hσ5) (fun σ6 hσ6 => zpc_bu (w_fX12_planned hσ6) (fun σ7 hσ7 => w_fX12_ends_169 hσ7)))))))))) (fun _ => w_fX12_ends_169 h)
theorem w_fX12_ends_96 {σ0 : zSt} {σ : zSt} {x1 : Int32} (h : zKeM σ0 σ) : zpc (fX12_ends_96 σ x1) (fun r => zKeM σ0 (r)) := by
  unfold fX12_ends_96
  exact zpc_ck (zpc_ck (zpc_bs (zKeM.wi h (by decide)) (fun σ8 hσ8 => zpc_ck (zpc_if (fun _ => w_fX12_ends_131 hσ8) (fun _ => w_fX12_ends_131 hσ8)))))
theorem w_fX12_ends_27 {σ0 : zSt} {σ : zSt} {x1 : Int32} (h : zKeM σ0 σ) : zpc (fX12_ends_27 σ x1) (fun r => zKeM σ0 (r)) := by
  unfold fX12_ends_27
  exact zpc_ck (zpc_if (fun _ => zpc_bi (w_fX12_reg h) (fun σ9 v10 hσ9 => zpc_ck (zpc_bs (zKeM.wi hσ9 (by decide)) (fun σ11 hσ11 => w_fX12_ends_96 hσ11)))) (fun _ => zpc_ck (zpc_ck (zpc_bs (zKeM.wi h (by decide)) (fun σ12 hσ12 => zpc_ck (zpc_if (fun _ => w_fX12_ends_96 hσ12) (fun _ => zpc_bi (w_fX12_reg hσ12) (fun σ13 v14 hσ13 => zpc_ck (zpc_bs (zKeM.wi hσ13 (by decide)) (fun σ15 hσ15 => zpc_ck (zpc_bs (zKeM.wi hσ15 (by decide)) (fun σ16 hσ16 => w_fX12_ends_96 hσ16))))))))))))
theorem w_fX12_ends {σ0 : zSt} {σ : zSt} (h : zKeM σ0 σ) : zpc (fX12_ends σ) (fun r => zKeM σ0 (r)) := by
  unfold fX12_ends
  exact zpc_bi (w_fX12_height h) (fun σ17 v18 hσ17 => zpc_ck (zpc_if (fun _ => w_fX12_ends_27 hσ17) (fun _ => zpc_ck (zpc_bu (w_fX12_draws hσ17) (fun σ19 hσ19 => w_fX12_ends_27 hσ19)))))
theorem w_fX12_loudness {σ0 : zSt} {σ : zSt} {x0 : Int32} (h : zKeM σ0 σ) : zpc (fX12_loudness σ x0) (fun r => zKeM σ0 (r.1)) := by
  unfold fX12_loudness
  exact zpc_if (fun _ => zpc_some h) (fun _ => zpc_if (fun _ => zpc_some h) (fun _ => zpc_if (fun _ => zpc_some h) (fun _ => zpc_if (fun _ => zpc_some h) (fun _ => zpc_if (fun _ => zpc_some h) (fun _ => zpc_if (fun _ => zpc_some h) (fun _ => zpc_if (fun _ => zpc_some h) (fun _ => zpc_if (fun _ => zpc_some h) (fun _ => zpc_if (fun _ => zpc_some h) (fun _ => zpc_if (fun _ => zpc_some h) (fun _ => zpc_if (fun _ => zpc_some h) (fun _ => zpc_if (fun _ => zpc_some h) (fun _ => zpc_if (fun _ => zpc_some h) (fun _ => zpc_if (fun _ => zpc_some h) (fun _ => zpc_if (fun _ => zpc_some h) (fun _ => zpc_some h)))))))))))))))
theorem w_fX12_sample_102 {σ0 : zSt} {k2 : zSt → Int32 → Option (zSt)} (hk2 : ∀ (y0 : zSt) (y1 : Int32), zKeM σ0 y0 → zpc (k2 y0 y1) (fun r => zKeM σ0 (r))) {σ : zSt} {x1 : Int32} (h : zKeM σ0 σ) : zpc (fX12_sample_102 k2 σ x1) (fun r => zKeM σ0 (r)) := by
  unfold fX12_sample_102
  exact zpc_bv (fun v1 _ => hk2 _ _ h)
theorem w_fX12_sample_101 {σ0 : zSt} {k2 : zSt → Int32 → Option (zSt)} (hk2 : ∀ (y0 : zSt) (y1 : Int32), zKeM σ0 y0 → zpc (k2 y0 y1) (fun r => zKeM σ0 (r))) {σ : zSt} {x1 : Int32} {s0 : Int32} {s1 : Int32} (h : zKeM σ0 σ) : zpc (fX12_sample_101 k2 σ x1 s0 s1) (fun r => zKeM σ0 (r)) := by
  unfold fX12_sample_101
  exact zpc_ck (zpc_bs (zKeM.wi h (by decide)) (fun σ2 hσ2 => w_fX12_sample_102 hk2 hσ2))
theorem w_fX12_sample_32 {σ0 : zSt} {k2 : zSt → Int32 → Option (zSt)} (hk2 : ∀ (y0 : zSt) (y1 : Int32), zKeM σ0 y0 → zpc (k2 y0 y1) (fun r => zKeM σ0 (r))) {σ : zSt} {x1 : Int32} (h : zKeM σ0 σ) : zpc (fX12_sample_32 k2 σ x1) (fun r => zKeM σ0 (r)) := by
  unfold fX12_sample_32
  exact zpc_ck (zpc_if (fun _ => zpc_ck (zpc_ck (zpc_bs (zKeM.wi h (by decide)) (fun σ3 hσ3 => zpc_ck (zpc_if (fun _ => zpc_ck (w_fX12_sample_101 hk2 hσ3)) (fun _ => w_fX12_sample_101 hk2 hσ3)))))) (fun _ => w_fX12_sample_102 hk2 h))
theorem w_fX12_sample_407 {σ0 : zSt} {k275 : zSt → Int64 → Int64 → Int32 → Option (zSt)} (hk275 : ∀ (y0 : zSt) (y1 : Int64) (y2 : Int64) (y3 : Int32), zKeM σ0 y0 → zpc (k275 y0 y1 y2 y3) (fun r => zKeM σ0 (r))) {σ : zSt} {x1 : Int64} {x3 : Int64} {x5 : Int32} (h : zKeM σ0 σ) : zpc (fX12_sample_407 k275 σ x1 x3 x5) (fun r => zKeM σ0 (r)) := by
  unfold fX12_sample_407
  exact zpc_bv (fun v4 _ => hk275 _ _ _ _ h)
theorem w_fX12_sample_369 {σ0 : zSt} {k275 : zSt → Int64 → Int64 → Int32 → Option (zSt)} (hk275 : ∀ (y0 : zSt) (y1 : Int64) (y2 : Int64) (y3 : Int32), zKeM σ0 y0 → zpc (k275 y0 y1 y2 y3) (fun r => zKeM σ0 (r))) {σ : zSt} {x1 : Int64} {x3 : Int64} {x5 : Int32} {x6 : Int32} (h : zKeM σ0 σ) : zpc (fX12_sample_369 k275 σ x1 x3 x5 x6) (fun r => zKeM σ0 (r)) := by
  unfold fX12_sample_369
  exact zpc_if (fun _ => w_fX12_sample_407 hk275 h) (fun _ => zpc_ck (zpc_if (fun _ => zpc_ck (zpc_bi (w_fX12_loudness h) (fun σ5 v6 hσ5 => zpc_bv (fun v7 _ => w_fX12_sample_407 hk275 hσ5)))) (fun _ => w_fX12_sample_407 hk275 h)))
theorem w_fX12_sample_327 {σ0 : zSt} {k275 : zSt → Int64 → Int64 → Int32 → Option (zSt)} (hk275 : ∀ (y0 : zSt) (y1 : Int64) (y2 : Int64) (y3 : Int32), zKeM σ0 y0 → zpc (k275 y0 y1 y2 y3) (fun r => zKeM σ0 (r))) {σ : zSt} {x1 : Int64} {x3 : Int64} {x5 : Int32} {s0 : Int32} (h : zKeM σ0 σ) : zpc (fX12_sample_327 k275 σ x1 x3 x5 s0) (fun r => zKeM σ0 (r)) := by
  unfold fX12_sample_327
  exact zpc_if (fun _ => w_fX12_sample_369 hk275 h) (fun _ => zpc_ck (zpc_if (fun _ => zpc_ck (zpc_bi (w_fX12_loudness h) (fun σ8 v9 hσ8 => zpc_bv (fun v10 _ => w_fX12_sample_369 hk275 hσ8)))) (fun _ => w_fX12_sample_369 hk275 h)))
theorem w_fX12_sample_508 {σ0 : zSt} {σ : zSt} {x1 : Int64} {x3 : Int64} (h : zKeM σ0 σ) : zpc (fX12_sample_508 σ x1 x3) (fun r => zKeM σ0 (r)) := by
  unfold fX12_sample_508
  exact zpc_ck (zpc_ck (zpc_ck (zpc_ck (zpc_bs (zKeM.wl h) (fun σ11 hσ11 => zpc_some hσ11)))))
theorem w_fX12_sample_275_body {σ0 : zSt} {k275 : zSt → Int64 → Int64 → Int32 → Option (zSt)} (hk275 : ∀ (y0 : zSt) (y1 : Int64) (y2 : Int64) (y3 : Int32), zKeM σ0 y0 → zpc (k275 y0 y1 y2 y3) (fun r => zKeM σ0 (r))) {σ : zSt} {x1 : Int64} {x3 : Int64} {x5 : Int32} (h : zKeM σ0 σ) : zpc (fX12_sample_275_body k275 σ x1 x3 x5) (fun r => zKeM σ0 (r)) := by
  unfold fX12_sample_275_body
  exact zpc_if (fun _ => zpc_ck (zpc_ck (zpc_bs (zKeM.wl h) (fun σ12 hσ12 => zpc_ck (zpc_ck (zpc_bs (zKeM.wi hσ12 (by decide)) (fun σ13 hσ13 => zpc_ck (zpc_ck (zpc_bs (zKeM.wi hσ13 (by decide)) (fun σ14 hσ14 => zpc_ck (zpc_ck (zpc_bs (zKeM.wi hσ14 (by decide)) (fun σ15 hσ15 => zpc_ck (zpc_if (fun _ => zpc_ck (zpc_ck (zpc_ck (zpc_bs (zKeM.wi hσ15 (by decide)) (fun σ17 hσ17 => w_fX12_sample_508 hσ17))))) (fun _ => zpc_ck (zpc_ck (zpc_bs (zKeM.wi hσ15 (by decide)) (fun σ16 hσ16 => w_fX12_sample_508 hσ16)))))))))))))))))) (fun _ => zpc_if (fun _ => zpc_ck (zpc_if (fun _ => w_fX12_sample_327 hk275 h) (fun _ => w_fX12_sample_327 hk275 h))) (fun _ => zpc_ck (zpc_if (fun _ => w_fX12_sample_327 hk275 h) (fun _ => w_fX12_sample_327 hk275 h))))
theorem w_fX12_sample_275 {σ0 : zSt} : ∀ (n : Nat) (y0 : zSt) (y1 : Int64) (y2 : Int64) (y3 : Int32), zKeM σ0 y0 → zpc (fX12_sample_275 n y0 y1 y2 y3) (fun r => zKeM σ0 (r)) := by
  intro n
  induction n with
  | zero => intro y0 y1 y2 y3 h; exact zpc_none
  | succ n ih => intro y0 y1 y2 y3 h; exact w_fX12_sample_275_body ih h
theorem w_fX12_sample_268 {σ0 : zSt} {σ : zSt} (h : zKeM σ0 σ) : zpc (fX12_sample_268 σ) (fun r => zKeM σ0 (r)) := by
  unfold fX12_sample_268
  exact w_fX12_sample_275 _ _ _ _ _ h
theorem w_fX12_sample_246 {σ0 : zSt} {σ : zSt} {s0 : Int32} (h : zKeM σ0 σ) : zpc (fX12_sample_246 σ s0) (fun r => zKeM σ0 (r)) := by
  unfold fX12_sample_246
  exact zpc_ck (zpc_ck (zpc_bs (zKeM.wi h (by decide)) (fun σ18 hσ18 => w_fX12_sample_268 hσ18)))
theorem w_fX12_sample_174 {σ0 : zSt} {σ : zSt} {s0 : Int32} {s1 : Int32} (h : zKeM σ0 σ) : zpc (fX12_sample_174 σ s0 s1) (fun r => zKeM σ0 (r)) := by
  unfold fX12_sample_174
  exact zpc_ck (zpc_bs (zKeM.wi h (by decide)) (fun σ19 hσ19 => zpc_ck (zpc_ck (zpc_bs (zKeM.wi hσ19 (by decide)) (fun σ20 hσ20 => zpc_ck (zpc_if (fun _ => zpc_ck (zpc_if (fun _ => zpc_ck (zpc_ck (w_fX12_sample_246 hσ20))) (fun _ => zpc_ck (w_fX12_sample_246 hσ20)))) (fun _ => w_fX12_sample_268 hσ20)))))))
theorem w_fX12_sample_129 {σ0 : zSt} {σ : zSt} (h : zKeM σ0 σ) : zpc (fX12_sample_129 σ) (fun r => zKeM σ0 (r)) := by
  unfold fX12_sample_129
  exact zpc_ck (zpc_if (fun _ => zpc_ck (zpc_ck (zpc_bv (fun v21 _ => zpc_if (fun _ => zpc_ck (w_fX12_sample_174 h)) (fun _ => w_fX12_sample_174 h))))) (fun _ => w_fX12_sample_268 h))
theorem w_fX12_sample_2_body {σ0 : zSt} {k2 : zSt → Int32 → Option (zSt)} (hk2 : ∀ (y0 : zSt) (y1 : Int32), zKeM σ0 y0 → zpc (k2 y0 y1) (fun r => zKeM σ0 (r))) {σ : zSt} {x1 : Int32} (h : zKeM σ0 σ) : zpc (fX12_sample_2_body k2 σ x1) (fun r => zKeM σ0 (r)) := by
  unfold fX12_sample_2_body
  exact zpc_if (fun _ => zpc_ck (zpc_if (fun _ => w_fX12_sample_129 h) (fun _ => zpc_ck (zpc_ck (zpc_bs (zKeM.wi h (by decide)) (fun σ22 hσ22 => w_fX12_sample_129 hσ22)))))) (fun _ => zpc_ck (zpc_if (fun _ => w_fX12_sample_32 hk2 h) (fun _ => zpc_bv (fun v23 _ => zpc_ck (zpc_ck (zpc_bs (zKeM.wi h (by decide)) (fun σ24 hσ24 => w_fX12_sample_32 hk2 hσ24)))))))
theorem w_fX12_sample_2 {σ0 : zSt} : ∀ (n : Nat) (y0 : zSt) (y1 : Int32), zKeM σ0 y0 → zpc (fX12_sample_2 n y0 y1) (fun r => zKeM σ0 (r)) := by
  intro n
  induction n with
  | zero => intro y0 y1 h; exact zpc_none
  | succ n ih => intro y0 y1 h; exact w_fX12_sample_2_body ih h
theorem w_fX12_sample {σ0 : zSt} {σ : zSt} (h : zKeM σ0 σ) : zpc (fX12_sample σ) (fun r => zKeM σ0 (r)) := by
  unfold fX12_sample
  exact w_fX12_sample_2 _ _ _ h
theorem w_fX12_wreg {σ0 : zSt} {σ : zSt} {x1 : Int32} (h : zKeM σ0 σ) : zpc (fX12_wreg σ x1) (fun r => zKeM σ0 (r.1)) := by
  unfold fX12_wreg
  exact zpc_ck (zpc_some h)
theorem w_fX12_isRhythm_22 {σ0 : zSt} {σ : zSt} {s0 : Int32} (h : zKeM σ0 σ) : zpc (fX12_isRhythm_22 σ s0) (fun r => zKeM σ0 (r.1)) := by
  unfold fX12_isRhythm_22
  exact zpc_ck (zpc_some h)
theorem w_fX12_isRhythm_21 {σ0 : zSt} {σ : zSt} (h : zKeM σ0 σ) : zpc (fX12_isRhythm_21 σ) (fun r => zKeM σ0 (r.1)) := by
  unfold fX12_isRhythm_21
  exact w_fX12_isRhythm_22 h
theorem w_fX12_isRhythm {σ0 : zSt} {σ : zSt} {x1 : Int32} (h : zKeM σ0 σ) : zpc (fX12_isRhythm σ x1) (fun r => zKeM σ0 (r.1)) := by
  unfold fX12_isRhythm
  exact zpc_if (fun _ => w_fX12_isRhythm_21 h) (fun _ => zpc_bi (w_fX12_wreg h) (fun σ1 v2 hσ1 => zpc_if (fun _ => w_fX12_isRhythm_21 hσ1) (fun _ => w_fX12_isRhythm_22 hσ1)))
theorem w_fX12_isOn_60 {σ0 : zSt} {σ : zSt} {x3 : Int32} {s0 : Int32} (h : zKeM σ0 σ) : zpc (fX12_isOn_60 σ x3 s0) (fun r => zKeM σ0 (r.1)) := by
  unfold fX12_isOn_60
  exact zpc_bi (w_fX12_wreg h) (fun σ1 v2 hσ1 => zpc_some hσ1)
theorem w_fX12_isOn {σ0 : zSt} {σ : zSt} {x1 : Int32} {x2 : Int32} (h : zKeM σ0 σ) : zpc (fX12_isOn σ x1 x2) (fun r => zKeM σ0 (r.1)) := by
  unfold fX12_isOn
  exact zpc_bi (w_fX12_wreg h) (fun σ3 v4 hσ3 => zpc_bv (fun v5 _ => zpc_bi (w_fX12_isRhythm hσ3) (fun σ6 v7 hσ6 => zpc_if (fun _ => zpc_some hσ6) (fun _ => zpc_if (fun _ => w_fX12_isOn_60 hσ6) (fun _ => zpc_if (fun _ => zpc_if (fun _ => w_fX12_isOn_60 hσ6) (fun _ => w_fX12_isOn_60 hσ6)) (fun _ => zpc_if (fun _ => w_fX12_isOn_60 hσ6) (fun _ => w_fX12_isOn_60 hσ6)))))))
theorem w_fX12_digit_20 {σ0 : zSt} {σ : zSt} {s0 : Int32} (h : zKeM σ0 σ) : zpc (fX12_digit_20 σ s0) (fun r => zKeM σ0 (r.1)) := by
  unfold fX12_digit_20
  exact zpc_some h
theorem w_fX12_digit {σ0 : zSt} {σ : zSt} {x0 : Int32} (h : zKeM σ0 σ) : zpc (fX12_digit σ x0) (fun r => zKeM σ0 (r.1)) := by
  unfold fX12_digit
  exact zpc_if (fun _ => w_fX12_digit_20 h) (fun _ => w_fX12_digit_20 h)
theorem w_fX12_patchByte_25 {σ0 : zSt} {σ : zSt} {x2 : Int32} {s0 : Int32} (h : zKeM σ0 σ) : zpc (fX12_patchByte_25 σ x2 s0) (fun r => zKeM σ0 (r.1)) := by
  unfold fX12_patchByte_25
  exact zpc_if (fun _ => zpc_bi (w_fX12_wreg h) (fun σ6 v7 hσ6 => zpc_some hσ6)) (fun _ => zpc_bv (fun v1 _ => zpc_ck (zpc_ck (zpc_bi (w_fX12_digit h) (fun σ2 v3 hσ2 => zpc_ck (zpc_ck (zpc_bi (w_fX12_digit hσ2) (fun σ4 v5 hσ4 => zpc_some hσ4))))))))
theorem w_fX12_patchByte {σ0 : zSt} {σ : zSt} {x1 : Int32} {x2 : Int32} (h : zKeM σ0 σ) : zpc (fX12_patchByte σ x1 x2) (fun r => zKeM σ0 (r.1)) := by
  unfold fX12_patchByte
  exact zpc_bi (w_fX12_isRhythm h) (fun σ8 v9 hσ8 => zpc_if (fun _ => zpc_bi (w_fX12_wreg hσ8) (fun σ10 v11 hσ10 => w_fX12_patchByte_25 hσ10)) (fun _ => w_fX12_patchByte_25 hσ8))
theorem w_fX12_rate_140 {σ0 : zSt} {σ : zSt} {s0 : Int32} (h : zKeM σ0 σ) : zpc (fX12_rate_140 σ s0) (fun r => zKeM σ0 (r.1)) := by
  unfold fX12_rate_140
  exact zpc_some h
theorem w_fX12_rate_99 {σ0 : zSt} {σ : zSt} {s0 : Int32} (h : zKeM σ0 σ) : zpc (fX12_rate_99 σ s0) (fun r => zKeM σ0 (r.1)) := by
  unfold fX12_rate_99
  exact zpc_some h
theorem w_fX12_rate_17 {σ0 : zSt} {σ : zSt} {x1 : Int32} {x2 : Int32} {x3 : Int32} {s0 : Int32} (h : zKeM σ0 σ) : zpc (fX12_rate_17 σ x1 x2 x3 s0) (fun r => zKeM σ0 (r.1)) := by
  unfold fX12_rate_17
  exact zpc_if (fun _ => zpc_some h) (fun _ => zpc_if (fun _ => zpc_bi (w_fX12_patchByte h) (fun σ1 v2 hσ1 => zpc_some hσ1)) (fun _ => zpc_if (fun _ => zpc_bi (w_fX12_patchByte h) (fun σ3 v4 hσ3 => zpc_some hσ3)) (fun _ => zpc_if (fun _ => zpc_if (fun _ => zpc_bi (w_fX12_patchByte h) (fun σ5 v6 hσ5 => w_fX12_rate_99 hσ5)) (fun _ => w_fX12_rate_99 h)) (fun _ => zpc_bi (w_fX12_wreg h) (fun σ7 v8 hσ7 => zpc_if (fun _ => zpc_if (fun _ => w_fX12_rate_140 hσ7) (fun _ => zpc_bi (w_fX12_patchByte hσ7) (fun σ9 v10 hσ9 => w_fX12_rate_140 hσ9))) (fun _ => w_fX12_rate_140 hσ7))))))
theorem w_fX12_rate {σ0 : zSt} {σ : zSt} {x1 : Int32} {x2 : Int32} {x3 : Int32} (h : zKeM σ0 σ) : zpc (fX12_rate σ x1 x2 x3) (fun r => zKeM σ0 (r.1)) := by
  unfold fX12_rate
  exact zpc_bi (w_fX12_patchByte h) (fun σ11 v12 hσ11 => zpc_if (fun _ => w_fX12_rate_17 hσ11) (fun _ => w_fX12_rate_17 hσ11))
theorem w_fX12_block {σ0 : zSt} {σ : zSt} {x1 : Int32} (h : zKeM σ0 σ) : zpc (fX12_block σ x1) (fun r => zKeM σ0 (r.1)) := by
  unfold fX12_block
  exact zpc_bi (w_fX12_wreg h) (fun σ1 v2 hσ1 => zpc_some hσ1)
theorem w_fX12_f {σ0 : zSt} {σ : zSt} {x1 : Int32} (h : zKeM σ0 σ) : zpc (fX12_f σ x1) (fun r => zKeM σ0 (r.1)) := by
  unfold fX12_f
  exact zpc_bi (w_fX12_wreg h) (fun σ1 v2 hσ1 => zpc_bi (w_fX12_wreg hσ1) (fun σ3 v4 hσ3 => zpc_some hσ3))
theorem w_fX12_t_40 {σ0 : zSt} {σ : zSt} {s0 : Int32} (h : zKeM σ0 σ) : zpc (fX12_t_40 σ s0) (fun r => zKeM σ0 (r.1)) := by
  unfold fX12_t_40
  exact zpc_some h
theorem w_fX12_t_35 {σ0 : zSt} {σ : zSt} (h : zKeM σ0 σ) : zpc (fX12_t_35 σ) (fun r => zKeM σ0 (r.1)) := by
  unfold fX12_t_35
  exact w_fX12_t_40 h
theorem w_fX12_t_39 {σ0 : zSt} {σ : zSt} (h : zKeM σ0 σ) : zpc (fX12_t_39 σ) (fun r => zKeM σ0 (r.1)) := by
  unfold fX12_t_39
  exact w_fX12_t_40 h
theorem w_fX12_t_19 {σ0 : zSt} {σ : zSt} {x0 : Int32} {x1 : Int32} (h : zKeM σ0 σ) : zpc (fX12_t_19 σ x0 x1) (fun r => zKeM σ0 (r.1)) := by
  unfold fX12_t_19
  exact zpc_if (fun _ => w_fX12_t_39 h) (fun _ => zpc_if (fun _ => w_fX12_t_35 h) (fun _ => zpc_if (fun _ => w_fX12_t_35 h) (fun _ => w_fX12_t_39 h)))
theorem w_fX12_t {σ0 : zSt} {σ : zSt} {x0 : Int32} {x1 : Int32} (h : zKeM σ0 σ) : zpc (fX12_t σ x0 x1) (fun r => zKeM σ0 (r.1)) := by
  unfold fX12_t
  exact zpc_ck (zpc_if (fun _ => w_fX12_t_35 h) (fun _ => zpc_ck (zpc_if (fun _ => zpc_if (fun _ => w_fX12_t_35 h) (fun _ => w_fX12_t_19 h)) (fun _ => w_fX12_t_19 h))))
theorem w_fX12_envelope_275 {σ0 : zSt} {σ : zSt} {s0 : Int32} {s1 : Int32} (h : zKeM σ0 σ) : zpc (fX12_envelope_275 σ s0 s1) (fun r => zKeM σ0 (r)) := by
  unfold fX12_envelope_275
  exact zpc_ck (zpc_bs (zKeM.wi h (by decide)) (fun σ1 hσ1 => zpc_some hσ1))
theorem w_fX12_envelope_259 {σ0 : zSt} {σ : zSt} {x1 : Int32} {x15 : Int32} (h : zKeM σ0 σ) : zpc (fX12_envelope_259 σ x1 x15) (fun r => zKeM σ0 (r)) := by
  unfold fX12_envelope_259
  exact zpc_if (fun _ => w_fX12_envelope_275 h) (fun _ => w_fX12_envelope_275 h)
theorem w_fX12_envelope_220 {σ0 : zSt} {σ : zSt} {x1 : Int32} {s0 : Int32} (h : zKeM σ0 σ) : zpc (fX12_envelope_220 σ x1 s0) (fun r => zKeM σ0 (r)) := by
  unfold fX12_envelope_220
  exact w_fX12_envelope_259 h
theorem w_fX12_envelope_257 {σ0 : zSt} {σ : zSt} {x1 : Int32} {s0 : Int32} (h : zKeM σ0 σ) : zpc (fX12_envelope_257 σ x1 s0) (fun r => zKeM σ0 (r)) := by
  unfold fX12_envelope_257
  exact w_fX12_envelope_259 h
theorem w_fX12_envelope_358 {σ0 : zSt} {σ : zSt} {s0 : Int32} {s1 : Int32} (h : zKeM σ0 σ) : zpc (fX12_envelope_358 σ s0 s1) (fun r => zKeM σ0 (r)) := by
  unfold fX12_envelope_358
  exact zpc_ck (zpc_bs (zKeM.wi h (by decide)) (fun σ2 hσ2 => zpc_some hσ2))
theorem w_fX12_envelope_336 {σ0 : zSt} {σ : zSt} {x1 : Int32} {s0 : Int32} {s1 : Int32} (h : zKeM σ0 σ) : zpc (fX12_envelope_336 σ x1 s0 s1) (fun r => zKeM σ0 (r)) := by
  unfold fX12_envelope_336
  exact zpc_bv (fun v3 _ => zpc_if (fun _ => w_fX12_envelope_358 h) (fun _ => w_fX12_envelope_358 h))
theorem w_fX12_envelope_159 {σ0 : zSt} {σ : zSt} {x1 : Int32} {x4 : Int32} {x7 : Int32} {x8 : Int32} {x9 : Int64} {s0 : Int32} (h : zKeM σ0 σ) : zpc (fX12_envelope_159 σ x1 x4 x7 x8 x9 s0) (fun r => zKeM σ0 (r)) := by
  unfold fX12_envelope_159
  exact zpc_ck (zpc_ck (zpc_bv (fun v4 _ => zpc_ck (zpc_bv (fun v5 _ => zpc_if (fun _ => zpc_if (fun _ => zpc_if (fun _ => w_fX12_envelope_257 h) (fun _ => zpc_bi (w_fX12_t h) (fun σ10 v11 hσ10 => w_fX12_envelope_257 hσ10))) (fun _ => zpc_if (fun _ => zpc_ck (w_fX12_envelope_220 h)) (fun _ => w_fX12_envelope_220 h))) (fun _ => zpc_if (fun _ => zpc_if (fun _ => zpc_ck (zpc_bi (w_fX12_t h) (fun σ8 v9 hσ8 => w_fX12_envelope_336 hσ8))) (fun _ => zpc_if (fun _ => zpc_bi (w_fX12_t h) (fun σ6 v7 hσ6 => w_fX12_envelope_336 hσ6)) (fun _ => w_fX12_envelope_336 h))) (fun _ => w_fX12_envelope_336 h)))))))
theorem w_fX12_envelope_158 {σ0 : zSt} {σ : zSt} {x1 : Int32} {x4 : Int32} {x7 : Int32} {x8 : Int32} {x9 : Int64} (h : zKeM σ0 σ) : zpc (fX12_envelope_158 σ x1 x4 x7 x8 x9) (fun r => zKeM σ0 (r)) := by
  unfold fX12_envelope_158
  exact w_fX12_envelope_159 h
theorem w_fX12_envelope_121 {σ0 : zSt} {σ : zSt} {x1 : Int32} {x4 : Int32} {x7 : Int32} {x8 : Int32} {x9 : Int64} {s0 : Int64} (h : zKeM σ0 σ) : zpc (fX12_envelope_121 σ x1 x4 x7 x8 x9 s0) (fun r => zKeM σ0 (r)) := by
  unfold fX12_envelope_121
  exact zpc_if (fun _ => w_fX12_envelope_158 h) (fun _ => zpc_ck (zpc_if (fun _ => zpc_ck (zpc_ck (zpc_bi (w_fX12_t h) (fun σ12 v13 hσ12 => w_fX12_envelope_159 hσ12)))) (fun _ => w_fX12_envelope_158 h)))
theorem w_fX12_envelope_87 {σ0 : zSt} {σ : zSt} {x1 : Int32} {x4 : Int32} {x6 : Int32} {s0 : Int32} (h : zKeM σ0 σ) : zpc (fX12_envelope_87 σ x1 x4 x6 s0) (fun r => zKeM σ0 (r)) := by
  unfold fX12_envelope_87
  exact zpc_ck (zpc_bv (fun v14 _ => zpc_ck (zpc_bv (fun v15 _ => zpc_if (fun _ => w_fX12_envelope_121 h) (fun _ => w_fX12_envelope_121 h)))))
theorem w_fX12_envelope_63 {σ0 : zSt} {σ : zSt} {x1 : Int32} {x4 : Int32} {x5 : Int32} {x6 : Int32} (h : zKeM σ0 σ) : zpc (fX12_envelope_63 σ x1 x4 x5 x6) (fun r => zKeM σ0 (r)) := by
  unfold fX12_envelope_63
  exact zpc_ck (zpc_if (fun _ => zpc_ck (w_fX12_envelope_87 h)) (fun _ => w_fX12_envelope_87 h))
theorem w_fX12_envelope {σ0 : zSt} {σ : zSt} {x1 : Int32} {x2 : Int32} {x3 : Int32} (h : zKeM σ0 σ) : zpc (fX12_envelope σ x1 x2 x3) (fun r => zKeM σ0 (r)) := by
  unfold fX12_envelope
  exact zpc_ck (zpc_bv (fun v16 _ => zpc_bi (w_fX12_rate h) (fun σ17 v18 hσ17 => zpc_if (fun _ => zpc_some hσ17) (fun _ => zpc_bi (w_fX12_block hσ17) (fun σ19 v20 hσ19 => zpc_bi (w_fX12_f hσ19) (fun σ21 v22 hσ21 => zpc_ck (zpc_bv (fun v23 _ => zpc_bi (w_fX12_patchByte hσ21) (fun σ24 v25 hσ24 => zpc_if (fun _ => zpc_ck (zpc_bv (fun v26 _ => w_fX12_envelope_63 hσ24))) (fun _ => w_fX12_envelope_63 hσ24))))))))))
theorem w_fX12_phase_150 {σ0 : zSt} {σ : zSt} {x1 : Int32} {x2 : Int32} {x5 : Int32} {x6 : Int32} (h : zKeM σ0 σ) : zpc (fX12_phase_150 σ x1 x2 x5 x6) (fun r => zKeM σ0 (r)) := by
  unfold fX12_phase_150
  exact zpc_ck (zpc_bi (w_fX12_f h) (fun σ1 v2 hσ1 => zpc_bi (w_fX12_block hσ1) (fun σ3 v4 hσ3 => zpc_ck (zpc_ck (zpc_bs (zKeM.wi hσ3 (by decide)) (fun σ5 hσ5 => zpc_some hσ5))))))
theorem w_fX12_phase_148 {σ0 : zSt} {σ : zSt} {x1 : Int32} {x2 : Int32} {x5 : Int32} {s0 : Int32} (h : zKeM σ0 σ) : zpc (fX12_phase_148 σ x1 x2 x5 s0) (fun r => zKeM σ0 (r)) := by
  unfold fX12_phase_148
  exact w_fX12_phase_150 h
theorem w_fX12_phase_132 {σ0 : zSt} {σ : zSt} {x1 : Int32} {x2 : Int32} {x5 : Int32} {x7 : Int32} {s0 : Int32} (h : zKeM σ0 σ) : zpc (fX12_phase_132 σ x1 x2 x5 x7 s0) (fun r => zKeM σ0 (r)) := by
  unfold fX12_phase_132
  exact zpc_if (fun _ => w_fX12_phase_148 h) (fun _ => w_fX12_phase_148 h)
theorem w_fX12_phase_60 {σ0 : zSt} {σ : zSt} {x1 : Int32} {x2 : Int32} {x3 : Int32} {s0 : Int32} (h : zKeM σ0 σ) : zpc (fX12_phase_60 σ x1 x2 x3 s0) (fun r => zKeM σ0 (r)) := by
  unfold fX12_phase_60
  exact zpc_bi (w_fX12_patchByte h) (fun σ6 v7 hσ6 => zpc_if (fun _ => w_fX12_phase_150 hσ6) (fun _ => zpc_ck (zpc_ck (zpc_ck (zpc_bv (fun v8 _ => zpc_bi (w_fX12_f hσ6) (fun σ9 v10 hσ9 => zpc_ck (zpc_bv (fun v11 _ => zpc_ck (zpc_if (fun _ => w_fX12_phase_132 hσ9) (fun _ => zpc_ck (zpc_if (fun _ => w_fX12_phase_132 hσ9) (fun _ => zpc_ck (w_fX12_phase_132 hσ9))))))))))))))
theorem w_fX12_phase {σ0 : zSt} {σ : zSt} {x1 : Int32} {x2 : Int32} {x3 : Int32} (h : zKeM σ0 σ) : zpc (fX12_phase σ x1 x2 x3) (fun r => zKeM σ0 (r)) := by
  unfold fX12_phase
  exact zpc_bi (w_fX12_patchByte h) (fun σ12 v13 hσ12 => zpc_bv (fun v14 _ => zpc_if (fun _ => w_fX12_phase_60 hσ12) (fun _ => zpc_if (fun _ => zpc_if (fun _ => w_fX12_phase_60 hσ12) (fun _ => zpc_if (fun _ => w_fX12_phase_60 hσ12) (fun _ => w_fX12_phase_60 hσ12))) (fun _ => w_fX12_phase_60 hσ12))))
theorem w_fX12_drum_191 {σ0 : zSt} {σ : zSt} {s0 : Int32} (h : zKeM σ0 σ) : zpc (fX12_drum_191 σ s0) (fun r => zKeM σ0 (r.1)) := by
  unfold fX12_drum_191
  exact zpc_some h
theorem w_fX12_drum_214 {σ0 : zSt} {σ : zSt} {s0 : Int32} (h : zKeM σ0 σ) : zpc (fX12_drum_214 σ s0) (fun r => zKeM σ0 (r.1)) := by
  unfold fX12_drum_214
  exact zpc_some h
theorem w_fX12_drum_148 {σ0 : zSt} {σ : zSt} {x1 : Int32} {x2 : Int32} {x3 : Int32} {x6 : Int32} {x7 : Int32} (h : zKeM σ0 σ) : zpc (fX12_drum_148 σ x1 x2 x3 x6 x7) (fun r => zKeM σ0 (r.1)) := by
  unfold fX12_drum_148
  exact zpc_if (fun _ => zpc_if (fun _ => zpc_if (fun _ => w_fX12_drum_191 h) (fun _ => w_fX12_drum_191 h)) (fun _ => zpc_if (fun _ => w_fX12_drum_191 h) (fun _ => w_fX12_drum_191 h))) (fun _ => zpc_if (fun _ => w_fX12_drum_214 h) (fun _ => zpc_if (fun _ => w_fX12_drum_214 h) (fun _ => w_fX12_drum_214 h)))
theorem w_fX12_drum_147 {σ0 : zSt} {σ : zSt} {s0 : Int32} (h : zKeM σ0 σ) : zpc (fX12_drum_147 σ s0) (fun r => zKeM σ0 (r.1)) := by
  unfold fX12_drum_147
  exact zpc_some h
theorem w_fX12_drum_100 {σ0 : zSt} {σ : zSt} {x1 : Int32} {x2 : Int32} {x3 : Int32} {x6 : Int32} {s0 : Int32} (h : zKeM σ0 σ) : zpc (fX12_drum_100 σ x1 x2 x3 x6 s0) (fun r => zKeM σ0 (r.1)) := by
  unfold fX12_drum_100
  exact zpc_if (fun _ => zpc_if (fun _ => zpc_if (fun _ => zpc_if (fun _ => w_fX12_drum_147 h) (fun _ => w_fX12_drum_147 h)) (fun _ => zpc_if (fun _ => w_fX12_drum_147 h) (fun _ => w_fX12_drum_147 h))) (fun _ => w_fX12_drum_148 h)) (fun _ => w_fX12_drum_148 h)
theorem w_fX12_drum_79 {σ0 : zSt} {σ : zSt} {x1 : Int32} {x2 : Int32} {x3 : Int32} {s0 : Int32} (h : zKeM σ0 σ) : zpc (fX12_drum_79 σ x1 x2 x3 s0) (fun r => zKeM σ0 (r.1)) := by
  unfold fX12_drum_79
  exact zpc_ck (zpc_if (fun _ => w_fX12_drum_100 h) (fun _ => w_fX12_drum_100 h))
theorem w_fX12_drum_74 {σ0 : zSt} {σ : zSt} {x1 : Int32} {x2 : Int32} {x3 : Int32} (h : zKeM σ0 σ) : zpc (fX12_drum_74 σ x1 x2 x3) (fun r => zKeM σ0 (r.1)) := by
  unfold fX12_drum_74
  exact w_fX12_drum_79 h
theorem w_fX12_drum {σ0 : zSt} {σ : zSt} {x1 : Int32} {x2 : Int32} {x3 : Int32} (h : zKeM σ0 σ) : zpc (fX12_drum σ x1 x2 x3) (fun r => zKeM σ0 (r.1)) := by
  unfold fX12_drum
  exact zpc_ck (zpc_ck (zpc_bv (fun v1 _ => zpc_ck (zpc_ck (zpc_bv (fun v2 _ => zpc_if (fun _ => zpc_if (fun _ => zpc_if (fun _ => w_fX12_drum_79 h) (fun _ => w_fX12_drum_74 h)) (fun _ => w_fX12_drum_74 h)) (fun _ => w_fX12_drum_74 h)))))))
theorem w_fX12_kept_97 {σ0 : zSt} {σ : zSt} {s0 : Int32} (h : zKeM σ0 σ) : zpc (fX12_kept_97 σ s0) (fun r => zKeM σ0 (r.1)) := by
  unfold fX12_kept_97
  exact zpc_some h
theorem w_fX12_kept {σ0 : zSt} {σ : zSt} {x0 : Int32} (h : zKeM σ0 σ) : zpc (fX12_kept σ x0) (fun r => zKeM σ0 (r.1)) := by
  unfold fX12_kept
  exact zpc_if (fun _ => w_fX12_kept_97 h) (fun _ => zpc_if (fun _ => w_fX12_kept_97 h) (fun _ => zpc_if (fun _ => w_fX12_kept_97 h) (fun _ => zpc_if (fun _ => w_fX12_kept_97 h) (fun _ => zpc_if (fun _ => w_fX12_kept_97 h) (fun _ => zpc_if (fun _ => w_fX12_kept_97 h) (fun _ => zpc_if (fun _ => w_fX12_kept_97 h) (fun _ => zpc_if (fun _ => w_fX12_kept_97 h) (fun _ => zpc_if (fun _ => w_fX12_kept_97 h) (fun _ => w_fX12_kept_97 h)))))))))
theorem w_fX12_waveAt_376 {σ0 : zSt} {σ : zSt} {s0 : Int32} (h : zKeM σ0 σ) : zpc (fX12_waveAt_376 σ s0) (fun r => zKeM σ0 (r.1)) := by
  unfold fX12_waveAt_376
  exact zpc_some h
theorem w_fX12_waveAt_296 {σ0 : zSt} {σ : zSt} {x2 : Int32} {x3 : Int32} {x4 : Int32} {x5 : Int32} {s0 : Int32} (h : zKeM σ0 σ) : zpc (fX12_waveAt_296 σ x2 x3 x4 x5 s0) (fun r => zKeM σ0 (r.1)) := by
  unfold fX12_waveAt_296
  exact zpc_ck (zpc_bv (fun v1 _ => zpc_ck (zpc_ck (zpc_ck (zpc_bv (fun v2 _ => zpc_if (fun _ => zpc_some h) (fun _ => zpc_bi (w_fX12_patchByte h) (fun σ3 v4 hσ3 => zpc_if (fun _ => w_fX12_waveAt_376 hσ3) (fun _ => w_fX12_waveAt_376 hσ3)))))))))
theorem w_fX12_waveAt_263 {σ0 : zSt} {σ : zSt} {x1 : Int32} {x2 : Int32} {x3 : Int32} {x4 : Int32} {x5 : Int32} {x8 : Int32} {x11 : Int32} {s0 : Int32} (h : zKeM σ0 σ) : zpc (fX12_waveAt_263 σ x1 x2 x3 x4 x5 x8 x11 s0) (fun r => zKeM σ0 (r.1)) := by
  unfold fX12_waveAt_263
  exact zpc_ck (zpc_bv (fun v5 _ => zpc_if (fun _ => w_fX12_waveAt_296 h) (fun _ => w_fX12_waveAt_296 h)))
theorem w_fX12_waveAt_260 {σ0 : zSt} {σ : zSt} {x1 : Int32} {x2 : Int32} {x3 : Int32} {x4 : Int32} {x5 : Int32} {x8 : Int32} {x11 : Int32} {s0 : Int32} (h : zKeM σ0 σ) : zpc (fX12_waveAt_260 σ x1 x2 x3 x4 x5 x8 x11 s0) (fun r => zKeM σ0 (r.1)) := by
  unfold fX12_waveAt_260
  exact zpc_ck (w_fX12_waveAt_263 h)
theorem w_fX12_waveAt_206 {σ0 : zSt} {σ : zSt} {x1 : Int32} {x2 : Int32} {x3 : Int32} {x4 : Int32} {x5 : Int32} {x8 : Int32} {s0 : Int32} (h : zKeM σ0 σ) : zpc (fX12_waveAt_206 σ x1 x2 x3 x4 x5 x8 s0) (fun r => zKeM σ0 (r.1)) := by
  unfold fX12_waveAt_206
  exact zpc_ck (zpc_ck (zpc_ck (zpc_bv (fun v6 _ => zpc_bi (w_fX12_patchByte h) (fun σ7 v8 hσ7 => zpc_if (fun _ => w_fX12_waveAt_263 hσ7) (fun _ => zpc_if (fun _ => w_fX12_waveAt_260 hσ7) (fun _ => w_fX12_waveAt_260 hσ7)))))))
theorem w_fX12_waveAt_192 {σ0 : zSt} {σ : zSt} {x1 : Int32} {x2 : Int32} {x3 : Int32} {x4 : Int32} {x5 : Int32} {x8 : Int32} {x9 : Int32} (h : zKeM σ0 σ) : zpc (fX12_waveAt_192 σ x1 x2 x3 x4 x5 x8 x9) (fun r => zKeM σ0 (r.1)) := by
  unfold fX12_waveAt_192
  exact zpc_ck (zpc_ck (w_fX12_waveAt_206 h))
theorem w_fX12_waveAt_123 {σ0 : zSt} {σ : zSt} {x1 : Int32} {x2 : Int32} {x3 : Int32} {x4 : Int32} {x5 : Int32} {s0 : Int32} (h : zKeM σ0 σ) : zpc (fX12_waveAt_123 σ x1 x2 x3 x4 x5 s0) (fun r => zKeM σ0 (r.1)) := by
  unfold fX12_waveAt_123
  exact zpc_bi (w_fX12_patchByte h) (fun σ9 v10 hσ9 => zpc_bv (fun v11 _ => zpc_bi (w_fX12_wreg hσ9) (fun σ12 v13 hσ12 => zpc_bv (fun v14 _ => zpc_if (fun _ => w_fX12_waveAt_206 hσ12) (fun _ => zpc_bi (w_fX12_isRhythm hσ12) (fun σ15 v16 hσ15 => zpc_if (fun _ => w_fX12_waveAt_192 hσ15) (fun _ => zpc_if (fun _ => w_fX12_waveAt_192 hσ15) (fun _ => zpc_bi (w_fX12_wreg hσ15) (fun σ17 v18 hσ17 => w_fX12_waveAt_206 hσ17)))))))))
theorem w_fX12_waveAt_91 {σ0 : zSt} {σ : zSt} {x1 : Int32} {x2 : Int32} {x3 : Int32} {x4 : Int32} {x5 : Int32} (h : zKeM σ0 σ) : zpc (fX12_waveAt_91 σ x1 x2 x3 x4 x5) (fun r => zKeM σ0 (r.1)) := by
  unfold fX12_waveAt_91
  exact w_fX12_waveAt_123 h
theorem w_fX12_waveAt_41 {σ0 : zSt} {σ : zSt} {x1 : Int32} {x2 : Int32} {x3 : Int32} {x4 : Int32} {s0 : Int32} (h : zKeM σ0 σ) : zpc (fX12_waveAt_41 σ x1 x2 x3 x4 s0) (fun r => zKeM σ0 (r.1)) := by
  unfold fX12_waveAt_41
  exact zpc_bi (w_fX12_patchByte h) (fun σ19 v20 hσ19 => zpc_bv (fun v21 _ => zpc_bi (w_fX12_f hσ19) (fun σ22 v23 hσ22 => zpc_ck (zpc_bi (w_fX12_kept hσ22) (fun σ24 v25 hσ24 => zpc_bi (w_fX12_block hσ24) (fun σ26 v27 hσ26 => zpc_bv (fun v28 _ => zpc_if (fun _ => w_fX12_waveAt_91 hσ26) (fun _ => zpc_if (fun _ => w_fX12_waveAt_91 hσ26) (fun _ => zpc_if (fun _ => zpc_ck (w_fX12_waveAt_123 hσ26)) (fun _ => zpc_if (fun _ => zpc_ck (w_fX12_waveAt_123 hσ26)) (fun _ => w_fX12_waveAt_123 hσ26)))))))))))
theorem w_fX12_waveAt {σ0 : zSt} {σ : zSt} {x1 : Int32} {x2 : Int32} {x3 : Int32} {x4 : Int32} (h : zKeM σ0 σ) : zpc (fX12_waveAt σ x1 x2 x3 x4) (fun r => zKeM σ0 (r.1)) := by
  unfold fX12_waveAt
  exact zpc_ck (zpc_if (fun _ => zpc_if (fun _ => zpc_ck (w_fX12_waveAt_41 h)) (fun _ => zpc_ck (w_fX12_waveAt_41 h))) (fun _ => zpc_some h))
theorem w_fX12_operator_319 {σ0 : zSt} {σ : zSt} {x1 : Int32} {x2 : Int32} {x3 : Int32} {x5 : Int32} {x8 : Int32} (h : zKeM σ0 σ) : zpc (fX12_operator_319 σ x1 x2 x3 x5 x8) (fun r => zKeM σ0 (r)) := by
  unfold fX12_operator_319
  exact zpc_ck (zpc_bs (zKeM.wi h (by decide)) (fun σ1 hσ1 => zpc_bi (w_fX12_waveAt hσ1) (fun σ2 v3 hσ2 => zpc_ck (zpc_bs (zKeM.wi hσ2 (by decide)) (fun σ4 hσ4 => zpc_some hσ4)))))
theorem w_fX12_operator_266 {σ0 : zSt} {σ : zSt} {x1 : Int32} {x2 : Int32} {x3 : Int32} {x5 : Int32} {s0 : Int32} (h : zKeM σ0 σ) : zpc (fX12_operator_266 σ x1 x2 x3 x5 s0) (fun r => zKeM σ0 (r)) := by
  unfold fX12_operator_266
  exact zpc_ck (zpc_ck (zpc_bv (fun v5 _ => zpc_bi (w_fX12_isRhythm h) (fun σ6 v7 hσ6 => zpc_if (fun _ => w_fX12_operator_319 hσ6) (fun _ => zpc_if (fun _ => w_fX12_operator_319 hσ6) (fun _ => zpc_ck (zpc_ck (zpc_bi (w_fX12_drum hσ6) (fun σ8 v9 hσ8 => w_fX12_operator_319 hσ8)))))))))
theorem w_fX12_operator_190 {σ0 : zSt} {σ : zSt} {x1 : Int32} {x2 : Int32} {x3 : Int32} (h : zKeM σ0 σ) : zpc (fX12_operator_190 σ x1 x2 x3) (fun r => zKeM σ0 (r)) := by
  unfold fX12_operator_190
  exact zpc_bu (w_fX12_phase h) (fun σ10 hσ10 => zpc_ck (zpc_bv (fun v11 _ => zpc_bi (w_fX12_patchByte hσ10) (fun σ12 v13 hσ12 => zpc_bv (fun v14 _ => zpc_if (fun _ => zpc_ck (w_fX12_operator_266 hσ12)) (fun _ => zpc_if (fun _ => w_fX12_operator_266 hσ12) (fun _ => zpc_ck (zpc_ck (w_fX12_operator_266 hσ12)))))))))
theorem w_fX12_operator_146 {σ0 : zSt} {σ : zSt} {x1 : Int32} {x2 : Int32} {x3 : Int32} (h : zKeM σ0 σ) : zpc (fX12_operator_146 σ x1 x2 x3) (fun r => zKeM σ0 (r)) := by
  unfold fX12_operator_146
  exact zpc_ck (zpc_if (fun _ => zpc_ck (zpc_ck (zpc_bi (w_fX12_patchByte h) (fun σ15 v16 hσ15 => zpc_if (fun _ => w_fX12_operator_190 hσ15) (fun _ => zpc_ck (zpc_bs (zKeM.wi hσ15 (by decide)) (fun σ17 hσ17 => w_fX12_operator_190 hσ17))))))) (fun _ => w_fX12_operator_190 h))
theorem w_fX12_operator_113 {σ0 : zSt} {σ : zSt} {x1 : Int32} {x2 : Int32} {x3 : Int32} (h : zKeM σ0 σ) : zpc (fX12_operator_113 σ x1 x2 x3) (fun r => zKeM σ0 (r)) := by
  unfold fX12_operator_113
  exact zpc_ck (zpc_if (fun _ => zpc_ck (zpc_if (fun _ => zpc_ck (zpc_bs (zKeM.wi h (by decide)) (fun σ18 hσ18 => w_fX12_operator_190 hσ18))) (fun _ => w_fX12_operator_146 h))) (fun _ => w_fX12_operator_146 h))
theorem w_fX12_operator_53 {σ0 : zSt} {σ : zSt} {x1 : Int32} {x2 : Int32} {x3 : Int32} {x4 : Int32} (h : zKeM σ0 σ) : zpc (fX12_operator_53 σ x1 x2 x3 x4) (fun r => zKeM σ0 (r)) := by
  unfold fX12_operator_53
  exact zpc_ck (zpc_bs (zKeM.wi h (by decide)) (fun σ19 hσ19 => zpc_bu (w_fX12_envelope hσ19) (fun σ20 hσ20 => zpc_ck (zpc_if (fun _ => zpc_ck (zpc_if (fun _ => w_fX12_operator_113 hσ20) (fun _ => zpc_ck (zpc_bs (zKeM.wi hσ20 (by decide)) (fun σ21 hσ21 => zpc_ck (zpc_bs (zKeM.wi hσ21 (by decide)) (fun σ22 hσ22 => w_fX12_operator_190 hσ22))))))) (fun _ => w_fX12_operator_113 hσ20)))))
theorem w_fX12_operator_52 {σ0 : zSt} {σ : zSt} {x1 : Int32} {x2 : Int32} {x3 : Int32} {x4 : Int32} {s0 : Int32} {s1 : Int32} (h : zKeM σ0 σ) : zpc (fX12_operator_52 σ x1 x2 x3 x4 s0 s1) (fun r => zKeM σ0 (r)) := by
  unfold fX12_operator_52
  exact zpc_ck (zpc_bs (zKeM.wi h (by decide)) (fun σ23 hσ23 => w_fX12_operator_53 hσ23))
theorem w_fX12_operator {σ0 : zSt} {σ : zSt} {x1 : Int32} {x2 : Int32} (h : zKeM σ0 σ) : zpc (fX12_operator σ x1 x2) (fun r => zKeM σ0 (r)) := by
  unfold fX12_operator
  exact zpc_bv (fun v24 _ => zpc_bi (w_fX12_isOn h) (fun σ25 v26 hσ25 => zpc_ck (zpc_if (fun _ => w_fX12_operator_53 hσ25) (fun _ => zpc_if (fun _ => w_fX12_operator_52 hσ25) (fun _ => w_fX12_operator_52 hσ25)))))
theorem w_fX12_waves_20_body {σ0 : zSt} {k12 : zSt → Int32 → Option (zSt)} (hk12 : ∀ (y0 : zSt) (y1 : Int32), zKeM σ0 y0 → zpc (k12 y0 y1) (fun r => zKeM σ0 (r))) {k20 : zSt → Int32 → Int32 → Option (zSt)} (hk20 : ∀ (y0 : zSt) (y1 : Int32) (y2 : Int32), zKeM σ0 y0 → zpc (k20 y0 y1 y2) (fun r => zKeM σ0 (r))) {σ : zSt} {x1 : Int32} {x2 : Int32} (h : zKeM σ0 σ) : zpc (fX12_waves_20_body k12 k20 σ x1 x2) (fun r => zKeM σ0 (r)) := by
  unfold fX12_waves_20_body
  exact zpc_if (fun _ => zpc_bv (fun v1 _ => hk12 _ _ h)) (fun _ => zpc_bu (w_fX12_operator h) (fun σ2 hσ2 => zpc_bv (fun v3 _ => hk20 _ _ _ hσ2)))
theorem w_fX12_waves_20 {σ0 : zSt} {k12 : zSt → Int32 → Option (zSt)} (hk12 : ∀ (y0 : zSt) (y1 : Int32), zKeM σ0 y0 → zpc (k12 y0 y1) (fun r => zKeM σ0 (r))) : ∀ (n : Nat) (y0 : zSt) (y1 : Int32) (y2 : Int32), zKeM σ0 y0 → zpc (fX12_waves_20 k12 n y0 y1 y2) (fun r => zKeM σ0 (r)) := by
  intro n
  induction n with
  | zero => intro y0 y1 y2 h; exact zpc_none
  | succ n ih => intro y0 y1 y2 h; exact w_fX12_waves_20_body hk12 ih h
theorem w_fX12_waves_157 {σ0 : zSt} {k82 : zSt → Int32 → Int32 → Option (zSt)} (hk82 : ∀ (y0 : zSt) (y1 : Int32) (y2 : Int32), zKeM σ0 y0 → zpc (k82 y0 y1 y2) (fun r => zKeM σ0 (r))) {σ : zSt} {x2 : Int32} {x3 : Int32} (h : zKeM σ0 σ) : zpc (fX12_waves_157 k82 σ x2 x3) (fun r => zKeM σ0 (r)) := by
  unfold fX12_waves_157
  exact zpc_bv (fun v4 _ => hk82 _ _ _ h)
theorem w_fX12_waves_153 {σ0 : zSt} {k82 : zSt → Int32 → Int32 → Option (zSt)} (hk82 : ∀ (y0 : zSt) (y1 : Int32) (y2 : Int32), zKeM σ0 y0 → zpc (k82 y0 y1 y2) (fun r => zKeM σ0 (r))) {σ : zSt} {x3 : Int32} {s0 : Int32} {s1 : Int32} {s2 : Int32} {s3 : Int32} (h : zKeM σ0 σ) : zpc (fX12_waves_153 k82 σ x3 s0 s1 s2 s3) (fun r => zKeM σ0 (r)) := by
  unfold fX12_waves_153
  exact zpc_bv (fun v5 _ => w_fX12_waves_157 hk82 h)
theorem w_fX12_waves_82_body {σ0 : zSt} {k82 : zSt → Int32 → Int32 → Option (zSt)} (hk82 : ∀ (y0 : zSt) (y1 : Int32) (y2 : Int32), zKeM σ0 y0 → zpc (k82 y0 y1 y2) (fun r => zKeM σ0 (r))) {σ : zSt} {x2 : Int32} {x3 : Int32} (h : zKeM σ0 σ) : zpc (fX12_waves_82_body k82 σ x2 x3) (fun r => zKeM σ0 (r)) := by
  unfold fX12_waves_82_body
  exact zpc_if (fun _ => zpc_ck (zpc_bs (zKeM.wi h (by decide)) (fun σ6 hσ6 => zpc_some hσ6))) (fun _ => zpc_bv (fun v7 _ => zpc_bi (w_fX12_isRhythm h) (fun σ8 v9 hσ8 => zpc_if (fun _ => zpc_ck (zpc_bv (fun v10 _ => w_fX12_waves_157 hk82 hσ8))) (fun _ => zpc_ck (zpc_if (fun _ => w_fX12_waves_153 hk82 hσ8) (fun _ => zpc_ck (w_fX12_waves_153 hk82 hσ8)))))))
theorem w_fX12_waves_82 {σ0 : zSt} : ∀ (n : Nat) (y0 : zSt) (y1 : Int32) (y2 : Int32), zKeM σ0 y0 → zpc (fX12_waves_82 n y0 y1 y2) (fun r => zKeM σ0 (r)) := by
  intro n
  induction n with
  | zero => intro y0 y1 y2 h; exact zpc_none
  | succ n ih => intro y0 y1 y2 h; exact w_fX12_waves_82_body ih h
theorem w_fX12_waves_75 {σ0 : zSt} {σ : zSt} {s0 : Int32} {s1 : Int32} (h : zKeM σ0 σ) : zpc (fX12_waves_75 σ s0 s1) (fun r => zKeM σ0 (r)) := by
  unfold fX12_waves_75
  exact zpc_ck (zpc_bs (zKeM.wi h (by decide)) (fun σ11 hσ11 => w_fX12_waves_82 _ _ _ _ hσ11))
theorem w_fX12_waves_12_body {σ0 : zSt} {k12 : zSt → Int32 → Option (zSt)} (hk12 : ∀ (y0 : zSt) (y1 : Int32), zKeM σ0 y0 → zpc (k12 y0 y1) (fun r => zKeM σ0 (r))) {σ : zSt} {x1 : Int32} (h : zKeM σ0 σ) : zpc (fX12_waves_12_body k12 σ x1) (fun r => zKeM σ0 (r)) := by
  unfold fX12_waves_12_body
  exact zpc_if (fun _ => zpc_ck (zpc_bv (fun v12 _ => zpc_if (fun _ => w_fX12_waves_75 h) (fun _ => w_fX12_waves_75 h)))) (fun _ => w_fX12_waves_20 hk12 _ _ _ _ h)
theorem w_fX12_waves_12 {σ0 : zSt} : ∀ (n : Nat) (y0 : zSt) (y1 : Int32), zKeM σ0 y0 → zpc (fX12_waves_12 n y0 y1) (fun r => zKeM σ0 (r)) := by
  intro n
  induction n with
  | zero => intro y0 y1 h; exact zpc_none
  | succ n ih => intro y0 y1 h; exact w_fX12_waves_12_body ih h
theorem w_fX12_waves {σ0 : zSt} {σ : zSt} (h : zKeM σ0 σ) : zpc (fX12_waves σ) (fun r => zKeM σ0 (r)) := by
  unfold fX12_waves
  exact zpc_ck (zpc_ck (zpc_bs (zKeM.wl h) (fun σ13 hσ13 => w_fX12_waves_12 _ _ _ hσ13)))
theorem w_fX12_mixed_151 {σ0 : zSt} {σ : zSt} {x2 : Int64} (h : zKeM σ0 σ) : zpc (fX12_mixed_151 σ x2) (fun r => zKeM σ0 (r)) := by
  unfold fX12_mixed_151
  exact zpc_ck (zpc_ck (zpc_ck (zpc_ck (zpc_bs (zKeM.wl h) (fun σ1 hσ1 => zpc_some hσ1)))))
theorem w_fX12_mixed_76_body {σ0 : zSt} {k76 : zSt → Int64 → Int32 → Option (zSt)} (hk76 : ∀ (y0 : zSt) (y1 : Int64) (y2 : Int32), zKeM σ0 y0 → zpc (k76 y0 y1 y2) (fun r => zKeM σ0 (r))) {σ : zSt} {x2 : Int64} {x4 : Int32} (h : zKeM σ0 σ) : zpc (fX12_mixed_76_body k76 σ x2 x4) (fun r => zKeM σ0 (r)) := by
  unfold fX12_mixed_76_body
  exact zpc_if (fun _ => zpc_ck (zpc_if (fun _ => zpc_ck (zpc_ck (zpc_ck (zpc_bs (zKeM.wi h (by decide)) (fun σ3 hσ3 => w_fX12_mixed_151 hσ3))))) (fun _ => zpc_ck (zpc_ck (zpc_bs (zKeM.wi h (by decide)) (fun σ2 hσ2 => w_fX12_mixed_151 hσ2)))))) (fun _ => zpc_ck (zpc_bs (zKeM.wi h (by decide)) (fun σ4 hσ4 => zpc_bv (fun v5 _ => hk76 _ _ _ hσ4))))
theorem w_fX12_mixed_76 {σ0 : zSt} : ∀ (n : Nat) (y0 : zSt) (y1 : Int64) (y2 : Int32), zKeM σ0 y0 → zpc (fX12_mixed_76 n y0 y1 y2) (fun r => zKeM σ0 (r)) := by
  intro n
  induction n with
  | zero => intro y0 y1 y2 h; exact zpc_none
  | succ n ih => intro y0 y1 y2 h; exact w_fX12_mixed_76_body ih h
theorem w_fX12_mixed_26 {σ0 : zSt} {σ : zSt} {s0 : Int32} (h : zKeM σ0 σ) : zpc (fX12_mixed_26 σ s0) (fun r => zKeM σ0 (r)) := by
  unfold fX12_mixed_26
  exact zpc_ck (zpc_ck (zpc_ck (zpc_ck (zpc_ck (zpc_ck (zpc_bv (fun v6 _ => w_fX12_mixed_76 _ _ _ _ h)))))))
theorem w_fX12_mixed {σ0 : zSt} {σ : zSt} (h : zKeM σ0 σ) : zpc (fX12_mixed σ) (fun r => zKeM σ0 (r)) := by
  unfold fX12_mixed
  exact zpc_ck (zpc_if (fun _ => zpc_ck (w_fX12_mixed_26 h)) (fun _ => w_fX12_mixed_26 h))
theorem w_fX12_asks_48 {σ0 : zSt} {σ : zSt} {s0 : Int32} (h : zKeM σ0 σ) : zpc (fX12_asks_48 σ s0) (fun r => zKeM σ0 (r.1)) := by
  unfold fX12_asks_48
  exact zpc_ck (zpc_some h)
theorem w_fX12_asks_47 {σ0 : zSt} {σ : zSt} (h : zKeM σ0 σ) : zpc (fX12_asks_47 σ) (fun r => zKeM σ0 (r.1)) := by
  unfold fX12_asks_47
  exact w_fX12_asks_48 h
theorem w_fX12_asks_43 {σ0 : zSt} {σ : zSt} (h : zKeM σ0 σ) : zpc (fX12_asks_43 σ) (fun r => zKeM σ0 (r.1)) := by
  unfold fX12_asks_43
  exact w_fX12_asks_48 h
theorem w_fX12_asks_22 {σ0 : zSt} {σ : zSt} (h : zKeM σ0 σ) : zpc (fX12_asks_22 σ) (fun r => zKeM σ0 (r.1)) := by
  unfold fX12_asks_22
  exact zpc_bi (w_fX12_bit h) (fun σ1 v2 hσ1 => zpc_if (fun _ => zpc_ck (zpc_if (fun _ => w_fX12_asks_43 hσ1) (fun _ => w_fX12_asks_47 hσ1))) (fun _ => w_fX12_asks_47 hσ1))
theorem w_fX12_asks {σ0 : zSt} {σ : zSt} (h : zKeM σ0 σ) : zpc (fX12_asks σ) (fun r => zKeM σ0 (r.1)) := by
  unfold fX12_asks
  exact zpc_bi (w_fX12_bit h) (fun σ3 v4 hσ3 => zpc_if (fun _ => zpc_ck (zpc_if (fun _ => w_fX12_asks_43 hσ3) (fun _ => w_fX12_asks_22 hσ3))) (fun _ => w_fX12_asks_22 hσ3))
theorem w_fX12_once_377_body {σ0 : zSt} {k377 : zSt → Int64 → Option (zSt)} (hk377 : ∀ (y0 : zSt) (y1 : Int64), zKeM σ0 y0 → zpc (k377 y0 y1) (fun r => zKeM σ0 (r))) {σ : zSt} {x5 : Int64} (h : zKeM σ0 σ) : zpc (fX12_once_377_body k377 σ x5) (fun r => zKeM σ0 (r)) := by
  unfold fX12_once_377_body
  exact zpc_ck (zpc_ck (zpc_if (fun _ => zpc_some h) (fun _ => zpc_bu (w_fX12_mixed h) (fun σ1 hσ1 => zpc_bv (fun v2 _ => hk377 _ _ hσ1)))))
theorem w_fX12_once_377 {σ0 : zSt} : ∀ (n : Nat) (y0 : zSt) (y1 : Int64), zKeM σ0 y0 → zpc (fX12_once_377 n y0 y1) (fun r => zKeM σ0 (r)) := by
  intro n
  induction n with
  | zero => intro y0 y1 h; exact zpc_none
  | succ n ih => intro y0 y1 h; exact w_fX12_once_377_body ih h
theorem w_fX12_once_341_body {σ0 : zSt} {k341 : zSt → Int64 → Int64 → Option (zSt)} (hk341 : ∀ (y0 : zSt) (y1 : Int64) (y2 : Int64), zKeM σ0 y0 → zpc (k341 y0 y1 y2) (fun r => zKeM σ0 (r))) {σ : zSt} {x3 : Int64} {x5 : Int64} (h : zKeM σ0 σ) : zpc (fX12_once_341_body k341 σ x3 x5) (fun r => zKeM σ0 (r)) := by
  unfold fX12_once_341_body
  exact zpc_ck (zpc_ck (zpc_if (fun _ => zpc_ck (zpc_bv (fun v3 _ => w_fX12_once_377 _ _ _ h))) (fun _ => zpc_bu (w_fX12_waves h) (fun σ4 hσ4 => zpc_bv (fun v5 _ => hk341 _ _ _ hσ4)))))
theorem w_fX12_once_341 {σ0 : zSt} : ∀ (n : Nat) (y0 : zSt) (y1 : Int64) (y2 : Int64), zKeM σ0 y0 → zpc (fX12_once_341 n y0 y1 y2) (fun r => zKeM σ0 (r)) := by
  intro n
  induction n with
  | zero => intro y0 y1 y2 h; exact zpc_none
  | succ n ih => intro y0 y1 y2 h; exact w_fX12_once_341_body ih h
theorem w_fX12_once_305_body {σ0 : zSt} {k305 : zSt → Int64 → Int64 → Option (zSt)} (hk305 : ∀ (y0 : zSt) (y1 : Int64) (y2 : Int64), zKeM σ0 y0 → zpc (k305 y0 y1 y2) (fun r => zKeM σ0 (r))) {σ : zSt} {x3 : Int64} {x5 : Int64} (h : zKeM σ0 σ) : zpc (fX12_once_305_body k305 σ x3 x5) (fun r => zKeM σ0 (r)) := by
  unfold fX12_once_305_body
  exact zpc_ck (zpc_ck (zpc_if (fun _ => zpc_ck (zpc_bv (fun v6 _ => w_fX12_once_341 _ _ _ _ h))) (fun _ => zpc_bu (w_fX12_sample h) (fun σ7 hσ7 => zpc_bv (fun v8 _ => hk305 _ _ _ hσ7)))))
theorem w_fX12_once_305 {σ0 : zSt} : ∀ (n : Nat) (y0 : zSt) (y1 : Int64) (y2 : Int64), zKeM σ0 y0 → zpc (fX12_once_305 n y0 y1 y2) (fun r => zKeM σ0 (r)) := by
  intro n
  induction n with
  | zero => intro y0 y1 y2 h; exact zpc_none
  | succ n ih => intro y0 y1 y2 h; exact w_fX12_once_305_body ih h
theorem w_fX12_once_298 {σ0 : zSt} {σ : zSt} {x3 : Int64} (h : zKeM σ0 σ) : zpc (fX12_once_298 σ x3) (fun r => zKeM σ0 (r)) := by
  unfold fX12_once_298
  exact zpc_ck (zpc_bv (fun v9 _ => w_fX12_once_305 _ _ _ _ h))
theorem w_fX12_once_229 {σ0 : zSt} {σ : zSt} {x2 : Int32} (h : zKeM σ0 σ) : zpc (fX12_once_229 σ x2) (fun r => zKeM σ0 (r)) := by
  unfold fX12_once_229
  exact zpc_ck (zpc_ck (zpc_bs (zKeM.wl h) (fun σ10 hσ10 => zpc_ck (zpc_bv (fun v11 _ => zpc_ck (zpc_ck (zpc_bs (zKeM.wl hσ10) (fun σ12 hσ12 => zpc_ck (zpc_ck (zpc_bs (zKeM.wi hσ12 (by decide)) (fun σ13 hσ13 => zpc_ck (zpc_if (fun _ => w_fX12_once_298 hσ13) (fun _ => zpc_ck (zpc_ck (zpc_bs (zKeM.wi hσ13 (by decide)) (fun σ14 hσ14 => zpc_bu (w_fX12_ends hσ14) (fun σ15 hσ15 => w_fX12_once_298 hσ15)))))))))))))))))
theorem w_fX12_once_204 {σ0 : zSt} {σ : zSt} (h : zKeM σ0 σ) : zpc (fX12_once_204 σ) (fun r => zKeM σ0 (r)) := by
  unfold fX12_once_204
  exact zpc_ck (zpc_if (fun _ => zpc_bu (w_fX12_grows h) (fun σ18 hσ18 => w_fX12_once_229 hσ18)) (fun _ => zpc_bi (w_fX12_instruction h) (fun σ16 v17 hσ16 => w_fX12_once_229 hσ16)))
theorem w_fX12_once_200 {σ0 : zSt} {σ : zSt} {s0 : Int32} (h : zKeM σ0 σ) : zpc (fX12_once_200 σ s0) (fun r => zKeM σ0 (r)) := by
  unfold fX12_once_200
  exact w_fX12_once_229 h
theorem w_fX12_once_179 {σ0 : zSt} {σ : zSt} {s0 : Int32} (h : zKeM σ0 σ) : zpc (fX12_once_179 σ s0) (fun r => zKeM σ0 (r)) := by
  unfold fX12_once_179
  exact zpc_bu (w_fX12_call h) (fun σ19 hσ19 => zpc_ck (zpc_if (fun _ => w_fX12_once_200 hσ19) (fun _ => w_fX12_once_200 hσ19)))
theorem w_fX12_once_102 {σ0 : zSt} {σ : zSt} {x1 : Int32} (h : zKeM σ0 σ) : zpc (fX12_once_102 σ x1) (fun r => zKeM σ0 (r)) := by
  unfold fX12_once_102
  exact zpc_ck (zpc_if (fun _ => zpc_if (fun _ => w_fX12_once_204 h) (fun _ => zpc_bi (w_fX12_asks h) (fun σ20 v21 hσ20 => zpc_if (fun _ => w_fX12_once_204 hσ20) (fun _ => zpc_ck (zpc_bs (zKeM.wi hσ20 (by decide)) (fun σ22 hσ22 => zpc_ck (zpc_bs (zKeM.wi hσ22 (by decide)) (fun σ23 hσ23 => zpc_bu (w_fX12_answers hσ23) (fun σ24 hσ24 => zpc_ck (zpc_if (fun _ => zpc_ck (zpc_bi (w_fX12_word hσ24) (fun σ25 v26 hσ25 => w_fX12_once_179 hσ25))) (fun _ => w_fX12_once_179 hσ24))))))))))) (fun _ => w_fX12_once_204 h))
theorem w_fX12_once_46 {σ0 : zSt} {σ : zSt} {s0 : Int32} (h : zKeM σ0 σ) : zpc (fX12_once_46 σ s0) (fun r => zKeM σ0 (r)) := by
  unfold fX12_once_46
  exact zpc_ck (zpc_bs (zKeM.wi h (by decide)) (fun σ27 hσ27 => zpc_ck (zpc_if (fun _ => zpc_if (fun _ => w_fX12_once_102 hσ27) (fun _ => zpc_ck (zpc_bs (zKeM.wi hσ27 (by decide)) (fun σ28 hσ28 => zpc_ck (zpc_bs (zKeM.wi hσ28 (by decide)) (fun σ29 hσ29 => zpc_bu (w_fX12_answers hσ29) (fun σ30 hσ30 => zpc_bu (w_fX12_call hσ30) (fun σ31 hσ31 => w_fX12_once_229 hσ31)))))))) (fun _ => w_fX12_once_102 hσ27))))
theorem w_fX12_once {σ0 : zSt} {σ : zSt} (h : zKeM σ0 σ) : zpc (fX12_once σ) (fun r => zKeM σ0 (r)) := by
  unfold fX12_once
  exact zpc_ck (zpc_ck (zpc_ck (zpc_bs (zKeM.wi h (by decide)) (fun σ32 hσ32 => zpc_bs (zKeM.wl hσ32) (fun σ33 hσ33 => zpc_ck (zpc_if (fun _ => w_fX12_once_46 hσ33) (fun _ => w_fX12_once_46 hσ33)))))))
theorem w_fX12_isStop_2_body {σ0 : zSt} {k2 : zSt → Int32 → Int32 → Option (zSt × Int32)} (hk2 : ∀ (y0 : zSt) (y1 : Int32) (y2 : Int32), zKeM σ0 y0 → zpc (k2 y0 y1 y2) (fun r => zKeM σ0 (r.1))) {σ : zSt} {x1 : Int32} {x2 : Int32} (h : zKeM σ0 σ) : zpc (fX12_isStop_2_body k2 σ x1 x2) (fun r => zKeM σ0 (r.1)) := by
  unfold fX12_isStop_2_body
  exact zpc_ck (zpc_if (fun _ => zpc_ck (zpc_some h)) (fun _ => zpc_ck (zpc_if (fun _ => zpc_ck (zpc_some h)) (fun _ => zpc_bv (fun v1 _ => hk2 _ _ _ h)))))
theorem w_fX12_isStop_2 {σ0 : zSt} : ∀ (n : Nat) (y0 : zSt) (y1 : Int32) (y2 : Int32), zKeM σ0 y0 → zpc (fX12_isStop_2 n y0 y1 y2) (fun r => zKeM σ0 (r.1)) := by
  intro n
  induction n with
  | zero => intro y0 y1 y2 h; exact zpc_none
  | succ n ih => intro y0 y1 y2 h; exact w_fX12_isStop_2_body ih h
theorem w_fX12_isStop {σ0 : zSt} {σ : zSt} {x1 : Int32} (h : zKeM σ0 σ) : zpc (fX12_isStop σ x1) (fun r => zKeM σ0 (r.1)) := by
  unfold fX12_isStop
  exact w_fX12_isStop_2 _ _ _ _ h
theorem w_fX12_step_62 {σ0 : zSt} {σ : zSt} {x2 : Int32} (h : zKeM σ0 σ) : zpc (fX12_step_62 σ x2) (fun r => zKeM σ0 (r.1)) := by
  unfold fX12_step_62
  exact zpc_some h
theorem w_fX12_step_52 {σ0 : zSt} {k29 : zSt → Int32 → Int32 → Option (zSt × Int32)} (hk29 : ∀ (y0 : zSt) (y1 : Int32) (y2 : Int32), zKeM σ0 y0 → zpc (k29 y0 y1 y2) (fun r => zKeM σ0 (r.1))) {σ : zSt} {x1 : Int32} {x2 : Int32} (h : zKeM σ0 σ) : zpc (fX12_step_52 k29 σ x1 x2) (fun r => zKeM σ0 (r.1)) := by
  unfold fX12_step_52
  exact zpc_bu (w_fX12_once h) (fun σ1 hσ1 => zpc_bv (fun v2 _ => hk29 _ _ _ hσ1))
theorem w_fX12_step_29_body {σ0 : zSt} {k29 : zSt → Int32 → Int32 → Option (zSt × Int32)} (hk29 : ∀ (y0 : zSt) (y1 : Int32) (y2 : Int32), zKeM σ0 y0 → zpc (k29 y0 y1 y2) (fun r => zKeM σ0 (r.1))) {σ : zSt} {x1 : Int32} {x2 : Int32} (h : zKeM σ0 σ) : zpc (fX12_step_29_body k29 σ x1 x2) (fun r => zKeM σ0 (r.1)) := by
  unfold fX12_step_29_body
  exact zpc_if (fun _ => w_fX12_step_62 h) (fun _ => zpc_if (fun _ => w_fX12_step_52 hk29 h) (fun _ => zpc_ck (zpc_bi (w_fX12_isStop h) (fun σ3 v4 hσ3 => zpc_if (fun _ => w_fX12_step_52 hk29 hσ3) (fun _ => w_fX12_step_62 hσ3)))))
theorem w_fX12_step_29 {σ0 : zSt} : ∀ (n : Nat) (y0 : zSt) (y1 : Int32) (y2 : Int32), zKeM σ0 y0 → zpc (fX12_step_29 n y0 y1 y2) (fun r => zKeM σ0 (r.1)) := by
  intro n
  induction n with
  | zero => intro y0 y1 y2 h; exact zpc_none
  | succ n ih => intro y0 y1 y2 h; exact w_fX12_step_29_body ih h
theorem w_fX12_step_18 {σ0 : zSt} {σ : zSt} {x1 : Int32} {s0 : Int32} (h : zKeM σ0 σ) : zpc (fX12_step_18 σ x1 s0) (fun r => zKeM σ0 (r.1)) := by
  unfold fX12_step_18
  exact zpc_bi (w_fX12_fails h) (fun σ5 v6 hσ5 => zpc_if (fun _ => w_fX12_step_29 _ _ _ _ hσ5) (fun _ => zpc_some hσ5))
theorem w_fX12_step {σ0 : zSt} {σ : zSt} {x1 : Int32} (h : zKeM σ0 σ) : zpc (fX12_step σ x1) (fun r => zKeM σ0 (r.1)) := by
  unfold fX12_step
  exact zpc_bi (w_fX12_within h) (fun σ7 v8 hσ7 => zpc_if (fun _ => w_fX12_step_18 hσ7) (fun _ => w_fX12_step_18 hσ7))
theorem w_fX12_picture_80 {σ0 : zSt} {σ : zSt} {x4 : Int32} (h : zKeM σ0 σ) : zpc (fX12_picture_80 σ x4) (fun r => zKeM σ0 (r.1)) := by
  unfold fX12_picture_80
  exact zpc_some h
theorem w_fX12_picture_70 {σ0 : zSt} {k40 : zSt → Int64 → Int32 → Option (zSt × Int32)} (hk40 : ∀ (y0 : zSt) (y1 : Int64) (y2 : Int32), zKeM σ0 y0 → zpc (k40 y0 y1 y2) (fun r => zKeM σ0 (r.1))) {σ : zSt} {x2 : Int64} {x4 : Int32} (h : zKeM σ0 σ) : zpc (fX12_picture_70 k40 σ x2 x4) (fun r => zKeM σ0 (r.1)) := by
  unfold fX12_picture_70
  exact zpc_bu (w_fX12_once h) (fun σ1 hσ1 => zpc_bv (fun v2 _ => hk40 _ _ _ hσ1))
theorem w_fX12_picture_40_body {σ0 : zSt} {k40 : zSt → Int64 → Int32 → Option (zSt × Int32)} (hk40 : ∀ (y0 : zSt) (y1 : Int64) (y2 : Int32), zKeM σ0 y0 → zpc (k40 y0 y1 y2) (fun r => zKeM σ0 (r.1))) {σ : zSt} {x2 : Int64} {x4 : Int32} (h : zKeM σ0 σ) : zpc (fX12_picture_40_body k40 σ x2 x4) (fun r => zKeM σ0 (r.1)) := by
  unfold fX12_picture_40_body
  exact zpc_ck (zpc_if (fun _ => w_fX12_picture_80 h) (fun _ => zpc_if (fun _ => w_fX12_picture_70 hk40 h) (fun _ => zpc_ck (zpc_bi (w_fX12_isStop h) (fun σ3 v4 hσ3 => zpc_if (fun _ => w_fX12_picture_70 hk40 hσ3) (fun _ => w_fX12_picture_80 hσ3))))))
theorem w_fX12_picture_40 {σ0 : zSt} : ∀ (n : Nat) (y0 : zSt) (y1 : Int64) (y2 : Int32), zKeM σ0 y0 → zpc (fX12_picture_40 n y0 y1 y2) (fun r => zKeM σ0 (r.1)) := by
  intro n
  induction n with
  | zero => intro y0 y1 y2 h; exact zpc_none
  | succ n ih => intro y0 y1 y2 h; exact w_fX12_picture_40_body ih h
theorem w_fX12_picture_18 {σ0 : zSt} {σ : zSt} {x1 : Int32} {s0 : Int32} (h : zKeM σ0 σ) : zpc (fX12_picture_18 σ x1 s0) (fun r => zKeM σ0 (r.1)) := by
  unfold fX12_picture_18
  exact zpc_bi (w_fX12_fails h) (fun σ5 v6 hσ5 => zpc_if (fun _ => zpc_ck (zpc_bv (fun v7 _ => w_fX12_picture_40 _ _ _ _ hσ5))) (fun _ => zpc_some hσ5))
theorem w_fX12_picture {σ0 : zSt} {σ : zSt} {x1 : Int32} (h : zKeM σ0 σ) : zpc (fX12_picture σ x1) (fun r => zKeM σ0 (r.1)) := by
  unfold fX12_picture
  exact zpc_bi (w_fX12_within h) (fun σ8 v9 hσ8 => zpc_if (fun _ => w_fX12_picture_18 hσ8) (fun _ => w_fX12_picture_18 hσ8))
theorem w_fX12_dot_103 {σ0 : zSt} {σ : zSt} {s0 : Int32} (h : zKeM σ0 σ) : zpc (fX12_dot_103 σ s0) (fun r => zKeM σ0 (r.1)) := by
  unfold fX12_dot_103
  exact zpc_ck (zpc_some h)
theorem w_fX12_dot_63 {σ0 : zSt} {σ : zSt} {x1 : Int32} {x2 : Int32} {x3 : Int32} {s0 : Int32} (h : zKeM σ0 σ) : zpc (fX12_dot_63 σ x1 x2 x3 s0) (fun r => zKeM σ0 (r.1)) := by
  unfold fX12_dot_63
  exact zpc_bi (w_fX12_fails h) (fun σ1 v2 hσ1 => zpc_if (fun _ => zpc_if (fun _ => w_fX12_dot_103 hσ1) (fun _ => w_fX12_dot_103 hσ1)) (fun _ => zpc_some hσ1))
theorem w_fX12_dot_58 {σ0 : zSt} {σ : zSt} {x1 : Int32} {x2 : Int32} {x3 : Int32} (h : zKeM σ0 σ) : zpc (fX12_dot_58 σ x1 x2 x3) (fun r => zKeM σ0 (r.1)) := by
  unfold fX12_dot_58
  exact w_fX12_dot_63 h
theorem w_fX12_dot_55 {σ0 : zSt} {σ : zSt} {x1 : Int32} {x2 : Int32} {x3 : Int32} {s0 : Int32} {s1 : Int32} (h : zKeM σ0 σ) : zpc (fX12_dot_55 σ x1 x2 x3 s0 s1) (fun r => zKeM σ0 (r.1)) := by
  unfold fX12_dot_55
  exact zpc_if (fun _ => w_fX12_dot_63 h) (fun _ => w_fX12_dot_58 h)
theorem w_fX12_dot_37 {σ0 : zSt} {σ : zSt} {x1 : Int32} {x2 : Int32} {x3 : Int32} {s0 : Int32} {s1 : Int32} (h : zKeM σ0 σ) : zpc (fX12_dot_37 σ x1 x2 x3 s0 s1) (fun r => zKeM σ0 (r.1)) := by
  unfold fX12_dot_37
  exact zpc_if (fun _ => w_fX12_dot_58 h) (fun _ => zpc_if (fun _ => zpc_bi (w_fX12_height h) (fun σ3 v4 hσ3 => w_fX12_dot_55 hσ3)) (fun _ => w_fX12_dot_55 h))
theorem w_fX12_dot_13 {σ0 : zSt} {σ : zSt} {x1 : Int32} {x2 : Int32} {s0 : Int32} (h : zKeM σ0 σ) : zpc (fX12_dot_13 σ x1 x2 s0) (fun r => zKeM σ0 (r.1)) := by
  unfold fX12_dot_13
  exact zpc_if (fun _ => w_fX12_dot_58 h) (fun _ => zpc_if (fun _ => w_fX12_dot_58 h) (fun _ => zpc_if (fun _ => w_fX12_dot_37 h) (fun _ => w_fX12_dot_37 h)))
theorem w_fX12_dot {σ0 : zSt} {σ : zSt} {x1 : Int32} {x2 : Int32} (h : zKeM σ0 σ) : zpc (fX12_dot σ x1 x2) (fun r => zKeM σ0 (r.1)) := by
  unfold fX12_dot
  exact zpc_if (fun _ => w_fX12_dot_13 h) (fun _ => w_fX12_dot_13 h)
theorem w_fX12_row_111 {σ0 : zSt} {k56 : zSt → Int32 → Int32 → Int32 → Int32 → Option (zSt × Int32)} (hk56 : ∀ (y0 : zSt) (y1 : Int32) (y2 : Int32) (y3 : Int32) (y4 : Int32), zKeM σ0 y0 → zpc (k56 y0 y1 y2 y3 y4) (fun r => zKeM σ0 (r.1))) {σ : zSt} {x1 : Int32} {x2 : Int32} {x4 : Int32} {s0 : Int32} {s2 : Int32} (h : zKeM σ0 σ) : zpc (fX12_row_111 k56 σ x1 x2 x4 s0 s2) (fun r => zKeM σ0 (r.1)) := by
  unfold fX12_row_111
  exact zpc_ck (zpc_bv (fun v1 _ => zpc_bv (fun v2 _ => hk56 _ _ _ _ _ h)))
theorem w_fX12_row_71 {σ0 : zSt} {k56 : zSt → Int32 → Int32 → Int32 → Int32 → Option (zSt × Int32)} (hk56 : ∀ (y0 : zSt) (y1 : Int32) (y2 : Int32) (y3 : Int32) (y4 : Int32), zKeM σ0 y0 → zpc (k56 y0 y1 y2 y3 y4) (fun r => zKeM σ0 (r.1))) {σ : zSt} {x1 : Int32} {x2 : Int32} {x3 : Int32} {x4 : Int32} {s0 : Int32} {s1 : Int32} (h : zKeM σ0 σ) : zpc (fX12_row_71 k56 σ x1 x2 x3 x4 s0 s1) (fun r => zKeM σ0 (r.1)) := by
  unfold fX12_row_71
  exact zpc_if (fun _ => zpc_some h) (fun _ => zpc_if (fun _ => w_fX12_row_111 hk56 h) (fun _ => w_fX12_row_111 hk56 h))
theorem w_fX12_row_56_body {σ0 : zSt} {k56 : zSt → Int32 → Int32 → Int32 → Int32 → Option (zSt × Int32)} (hk56 : ∀ (y0 : zSt) (y1 : Int32) (y2 : Int32) (y3 : Int32) (y4 : Int32), zKeM σ0 y0 → zpc (k56 y0 y1 y2 y3 y4) (fun r => zKeM σ0 (r.1))) {σ : zSt} {x1 : Int32} {x2 : Int32} {x3 : Int32} {x4 : Int32} (h : zKeM σ0 σ) : zpc (fX12_row_56_body k56 σ x1 x2 x3 x4) (fun r => zKeM σ0 (r.1)) := by
  unfold fX12_row_56_body
  exact zpc_if (fun _ => w_fX12_row_71 hk56 h) (fun _ => w_fX12_row_71 hk56 h)
theorem w_fX12_row_56 {σ0 : zSt} : ∀ (n : Nat) (y0 : zSt) (y1 : Int32) (y2 : Int32) (y3 : Int32) (y4 : Int32), zKeM σ0 y0 → zpc (fX12_row_56 n y0 y1 y2 y3 y4) (fun r => zKeM σ0 (r.1)) := by
  intro n
  induction n with
  | zero => intro y0 y1 y2 y3 y4 h; exact zpc_none
  | succ n ih => intro y0 y1 y2 y3 y4 h; exact w_fX12_row_56_body ih h
theorem w_fX12_row_42 {σ0 : zSt} {σ : zSt} {x1 : Int32} {x2 : Int32} {s0 : Int32} (h : zKeM σ0 σ) : zpc (fX12_row_42 σ x1 x2 s0) (fun r => zKeM σ0 (r.1)) := by
  unfold fX12_row_42
  exact zpc_bi (w_fX12_fails h) (fun σ3 v4 hσ3 => zpc_if (fun _ => w_fX12_row_56 _ _ _ _ _ _ hσ3) (fun _ => zpc_some hσ3))
theorem w_fX12_row_37 {σ0 : zSt} {σ : zSt} {x1 : Int32} {x2 : Int32} (h : zKeM σ0 σ) : zpc (fX12_row_37 σ x1 x2) (fun r => zKeM σ0 (r.1)) := by
  unfold fX12_row_37
  exact w_fX12_row_42 h
theorem w_fX12_row_34 {σ0 : zSt} {σ : zSt} {x1 : Int32} {x2 : Int32} {s0 : Int32} {s1 : Int32} (h : zKeM σ0 σ) : zpc (fX12_row_34 σ x1 x2 s0 s1) (fun r => zKeM σ0 (r.1)) := by
  unfold fX12_row_34
  exact zpc_if (fun _ => w_fX12_row_42 h) (fun _ => w_fX12_row_37 h)
theorem w_fX12_row_13 {σ0 : zSt} {σ : zSt} {x1 : Int32} {s0 : Int32} (h : zKeM σ0 σ) : zpc (fX12_row_13 σ x1 s0) (fun r => zKeM σ0 (r.1)) := by
  unfold fX12_row_13
  exact zpc_if (fun _ => w_fX12_row_37 h) (fun _ => zpc_if (fun _ => zpc_bi (w_fX12_height h) (fun σ5 v6 hσ5 => w_fX12_row_34 hσ5)) (fun _ => w_fX12_row_34 h))
theorem w_fX12_row {σ0 : zSt} {σ : zSt} {x1 : Int32} (h : zKeM σ0 σ) : zpc (fX12_row σ x1) (fun r => zKeM σ0 (r.1)) := by
  unfold fX12_row
  exact zpc_if (fun _ => w_fX12_row_13 h) (fun _ => w_fX12_row_13 h)
theorem w_fX12_hear_16 {σ0 : zSt} {σ : zSt} {s0 : Int32} (h : zKeM σ0 σ) : zpc (fX12_hear_16 σ s0) (fun r => zKeM σ0 (r.1)) := by
  unfold fX12_hear_16
  exact zpc_bi (w_fX12_fails h) (fun σ1 v2 hσ1 => zpc_if (fun _ => zpc_ck (zpc_ck (zpc_bv (fun v3 _ => zpc_ck (zpc_ck (zpc_ck (zpc_bs (zKeM.wi hσ1 (by decide)) (fun σ4 hσ4 => zpc_ck (zpc_ck (zpc_bs (zKeM.wi hσ4 (by decide)) (fun σ5 hσ5 => zpc_some hσ5))))))))))) (fun _ => zpc_some hσ1))
theorem w_fX12_hear {σ0 : zSt} {σ : zSt} (h : zKeM σ0 σ) : zpc (fX12_hear σ) (fun r => zKeM σ0 (r.1)) := by
  unfold fX12_hear
  exact zpc_ck (zpc_if (fun _ => w_fX12_hear_16 h) (fun _ => w_fX12_hear_16 h))
theorem w_fX12_sound_52 {σ0 : zSt} {σ : zSt} {s0 : Int32} (h : zKeM σ0 σ) : zpc (fX12_sound_52 σ s0) (fun r => zKeM σ0 (r.1)) := by
  unfold fX12_sound_52
  exact zpc_some h
theorem w_fX12_sound_18 {σ0 : zSt} {σ : zSt} {x1 : Int32} {s0 : Int32} (h : zKeM σ0 σ) : zpc (fX12_sound_18 σ x1 s0) (fun r => zKeM σ0 (r.1)) := by
  unfold fX12_sound_18
  exact zpc_bi (w_fX12_fails h) (fun σ1 v2 hσ1 => zpc_if (fun _ => zpc_if (fun _ => zpc_ck (w_fX12_sound_52 hσ1)) (fun _ => zpc_ck (w_fX12_sound_52 hσ1))) (fun _ => zpc_some hσ1))
theorem w_fX12_sound {σ0 : zSt} {σ : zSt} {x1 : Int32} (h : zKeM σ0 σ) : zpc (fX12_sound σ x1) (fun r => zKeM σ0 (r.1)) := by
  unfold fX12_sound
  exact zpc_bi (w_fX12_within h) (fun σ3 v4 hσ3 => zpc_if (fun _ => w_fX12_sound_18 hσ3) (fun _ => w_fX12_sound_18 hσ3))
theorem w_fX12_reset {σ0 : zSt} {σ : zSt} (h : zKeM σ0 σ) : zpc (fX12_reset σ) (fun r => zKeM σ0 (r)) := by
  unfold fX12_reset
  exact zpc_bs (zKeM.w0 h (by decide)) (fun σ1 hσ1 => zpc_bu (w_fX12_anew hσ1) (fun σ2 hσ2 => zpc_some hσ2))
theorem w_fX12_pause {σ0 : zSt} {σ : zSt} (h : zKeM σ0 σ) : zpc (fX12_pause σ) (fun r => zKeM σ0 (r.1)) := by
  unfold fX12_pause
  exact zpc_bs (zKeM.w0 h (by decide)) (fun σ1 hσ1 => zpc_if (fun _ => zpc_ck (zpc_some hσ1)) (fun _ => zpc_ck (zpc_bs (zKeM.wi hσ1 (by decide)) (fun σ2 hσ2 => zpc_ck (zpc_some hσ2)))))
theorem w_fX12_press_28 {σ0 : zSt} {σ : zSt} {x1 : Int32} {x2 : Int32} {s0 : Int32} (h : zKeM σ0 σ) : zpc (fX12_press_28 σ x1 x2 s0) (fun r => zKeM σ0 (r)) := by
  unfold fX12_press_28
  exact zpc_bi (w_fX12_fails h) (fun σ1 v2 hσ1 => zpc_if (fun _ => zpc_ck (zpc_bs (zKeM.wi hσ1 (by decide)) (fun σ3 hσ3 => zpc_some hσ3))) (fun _ => zpc_some hσ1))
theorem w_fX12_press_23 {σ0 : zSt} {σ : zSt} {x1 : Int32} {x2 : Int32} (h : zKeM σ0 σ) : zpc (fX12_press_23 σ x1 x2) (fun r => zKeM σ0 (r)) := by
  unfold fX12_press_23
  exact w_fX12_press_28 h
theorem w_fX12_press {σ0 : zSt} {σ : zSt} {x1 : Int32} {x2 : Int32} (h : zKeM σ0 σ) : zpc (fX12_press σ x1 x2) (fun r => zKeM σ0 (r)) := by
  unfold fX12_press
  exact zpc_bi (w_fX12_within h) (fun σ4 v5 hσ4 => zpc_if (fun _ => w_fX12_press_23 hσ4) (fun _ => zpc_bi (w_fX12_within hσ4) (fun σ6 v7 hσ6 => zpc_if (fun _ => w_fX12_press_23 hσ6) (fun _ => w_fX12_press_28 hσ6))))
theorem w_fX12_start_20 {σ0 : zSt} {σ : zSt} {s0 : Int32} {s1 : Int32} (h : zKeM σ0 σ) : zpc (fX12_start_20 σ s0 s1) (fun r => zKeM σ0 (r)) := by
  unfold fX12_start_20
  exact zpc_ck (zpc_bs (zKeM.wi h (by decide)) (fun σ1 hσ1 => zpc_some hσ1))
theorem w_fX12_start {σ0 : zSt} {σ : zSt} {x1 : Int32} (h : zKeM σ0 σ) : zpc (fX12_start σ x1) (fun r => zKeM σ0 (r)) := by
  unfold fX12_start
  exact zpc_bs (zKeM.w0 h (by decide)) (fun σ2 hσ2 => zpc_if (fun _ => w_fX12_start_20 hσ2) (fun _ => w_fX12_start_20 hσ2))
theorem w_fX12_line_72 {σ0 : zSt} {σ : zSt} (h : zKeM σ0 σ) : zpc (fX12_line_72 σ) (fun r => zKeM σ0 (r)) := by
  unfold fX12_line_72
  exact zpc_some h
theorem w_fX12_line_47 {σ0 : zSt} {σ : zSt} {x1 : Int32} {x3 : Int32} {s0 : Int32} {s1 : Int32} (h : zKeM σ0 σ) : zpc (fX12_line_47 σ x1 x3 s0 s1) (fun r => zKeM σ0 (r)) := by
  unfold fX12_line_47
  exact zpc_ck (zpc_bs (zKeM.wi h (by decide)) (fun σ1 hσ1 => zpc_if (fun _ => zpc_bi (w_fX12_lineAt hσ1) (fun σ2 v3 hσ2 => zpc_if (fun _ => zpc_bi (w_fX12_hCount hσ2) (fun σ4 v5 hσ4 => zpc_ck (zpc_bs (zKeM.wi hσ4 (by decide)) (fun σ6 hσ6 => w_fX12_line_72 hσ6)))) (fun _ => w_fX12_line_72 hσ2))) (fun _ => w_fX12_line_72 hσ1)))
theorem w_fX12_line_16 {σ0 : zSt} {σ : zSt} {x1 : Int32} {x2 : Int32} {s0 : Int32} (h : zKeM σ0 σ) : zpc (fX12_line_16 σ x1 x2 s0) (fun r => zKeM σ0 (r)) := by
  unfold fX12_line_16
  exact zpc_bi (w_fX12_fails h) (fun σ7 v8 hσ7 => zpc_if (fun _ => zpc_bi (w_fX12_lineAt hσ7) (fun σ9 v10 hσ9 => zpc_if (fun _ => w_fX12_line_47 hσ9) (fun _ => w_fX12_line_47 hσ9))) (fun _ => zpc_some hσ7))
theorem w_fX12_line {σ0 : zSt} {σ : zSt} {x1 : Int32} {x2 : Int32} (h : zKeM σ0 σ) : zpc (fX12_line σ x1 x2) (fun r => zKeM σ0 (r)) := by
  unfold fX12_line
  exact zpc_bi (w_fX12_within h) (fun σ11 v12 hσ11 => zpc_if (fun _ => w_fX12_line_16 hσ11) (fun _ => w_fX12_line_16 hσ11))
theorem w_fX12_stop_64 {σ0 : zSt} {σ : zSt} (h : zKeM σ0 σ) : zpc (fX12_stop_64 σ) (fun r => zKeM σ0 (r.1)) := by
  unfold fX12_stop_64
  exact zpc_some h
theorem w_fX12_stop_168 {σ0 : zSt} {σ : zSt} (h : zKeM σ0 σ) : zpc (fX12_stop_168 σ) (fun r => zKeM σ0 (r.1)) := by
  unfold fX12_stop_168
  exact zpc_ck (zpc_some h)
theorem w_fX12_stop_112_body {σ0 : zSt} {k112 : zSt → Int32 → Int32 → Option (zSt × Int32)} (hk112 : ∀ (y0 : zSt) (y1 : Int32) (y2 : Int32), zKeM σ0 y0 → zpc (k112 y0 y1 y2) (fun r => zKeM σ0 (r.1))) {σ : zSt} {x1 : Int32} {x4 : Int32} (h : zKeM σ0 σ) : zpc (fX12_stop_112_body k112 σ x1 x4) (fun r => zKeM σ0 (r.1)) := by
  unfold fX12_stop_112_body
  exact zpc_ck (zpc_if (fun _ => zpc_ck (zpc_ck (zpc_ck (zpc_bs (zKeM.wi h (by decide)) (fun σ1 hσ1 => zpc_ck (zpc_ck (zpc_bs (zKeM.wi hσ1 (by decide)) (fun σ2 hσ2 => w_fX12_stop_168 hσ2)))))))) (fun _ => zpc_bv (fun v3 _ => hk112 _ _ _ h)))
theorem w_fX12_stop_112 {σ0 : zSt} : ∀ (n : Nat) (y0 : zSt) (y1 : Int32) (y2 : Int32), zKeM σ0 y0 → zpc (fX12_stop_112 n y0 y1 y2) (fun r => zKeM σ0 (r.1)) := by
  intro n
  induction n with
  | zero => intro y0 y1 y2 h; exact zpc_none
  | succ n ih => intro y0 y1 y2 h; exact w_fX12_stop_112_body ih h
theorem w_fX12_stop_101 {σ0 : zSt} {σ : zSt} {x1 : Int32} {x2 : Int32} {x3 : Int32} (h : zKeM σ0 σ) : zpc (fX12_stop_101 σ x1 x2 x3) (fun r => zKeM σ0 (r.1)) := by
  unfold fX12_stop_101
  exact zpc_if (fun _ => zpc_if (fun _ => w_fX12_stop_168 h) (fun _ => w_fX12_stop_112 _ _ _ _ h)) (fun _ => w_fX12_stop_168 h)
theorem w_fX12_stop_57 {σ0 : zSt} {σ : zSt} {x1 : Int32} {x2 : Int32} {x3 : Int32} {s0 : Int32} (h : zKeM σ0 σ) : zpc (fX12_stop_57 σ x1 x2 x3 s0) (fun r => zKeM σ0 (r.1)) := by
  unfold fX12_stop_57
  exact zpc_bi (w_fX12_fails h) (fun σ4 v5 hσ4 => zpc_if (fun _ => zpc_if (fun _ => w_fX12_stop_101 hσ4) (fun _ => zpc_if (fun _ => zpc_ck (zpc_ck (zpc_bs (zKeM.wi hσ4 (by decide)) (fun σ6 hσ6 => zpc_ck (zpc_ck (zpc_bs (zKeM.wi hσ6 (by decide)) (fun σ7 hσ7 => w_fX12_stop_101 hσ7))))))) (fun _ => w_fX12_stop_101 hσ4))) (fun _ => w_fX12_stop_64 hσ4))
theorem w_fX12_stop_56 {σ0 : zSt} {σ : zSt} {x1 : Int32} {x2 : Int32} {x3 : Int32} (h : zKeM σ0 σ) : zpc (fX12_stop_56 σ x1 x2 x3) (fun r => zKeM σ0 (r.1)) := by
  unfold fX12_stop_56
  exact w_fX12_stop_57 h
theorem w_fX12_stop_24 {σ0 : zSt} {σ : zSt} {x1 : Int32} {x2 : Int32} {x3 : Int32} {s0 : Int32} (h : zKeM σ0 σ) : zpc (fX12_stop_24 σ x1 x2 x3 s0) (fun r => zKeM σ0 (r.1)) := by
  unfold fX12_stop_24
  exact zpc_bi (w_fX12_fails h) (fun σ8 v9 hσ8 => zpc_if (fun _ => zpc_if (fun _ => w_fX12_stop_56 hσ8) (fun _ => zpc_if (fun _ => zpc_ck (zpc_if (fun _ => w_fX12_stop_57 hσ8) (fun _ => w_fX12_stop_56 hσ8))) (fun _ => w_fX12_stop_56 hσ8))) (fun _ => w_fX12_stop_64 hσ8))
theorem w_fX12_stop {σ0 : zSt} {σ : zSt} {x1 : Int32} {x2 : Int32} (h : zKeM σ0 σ) : zpc (fX12_stop σ x1 x2) (fun r => zKeM σ0 (r.1)) := by
  unfold fX12_stop
  exact zpc_bi (w_fX12_isStop h) (fun σ10 v11 hσ10 => zpc_bi (w_fX12_within hσ10) (fun σ12 v13 hσ12 => zpc_if (fun _ => w_fX12_stop_24 hσ12) (fun _ => w_fX12_stop_24 hσ12)))
theorem w_fX12_save_196_body {σ0 : zSt} {k196 : zSt → Int32 → Option (zSt)} (hk196 : ∀ (y0 : zSt) (y1 : Int32), zKeM σ0 y0 → zpc (k196 y0 y1) (fun r => zKeM σ0 (r))) {σ : zSt} {x1 : Int32} (h : zKeM σ0 σ) : zpc (fX12_save_196_body k196 σ x1) (fun r => zKeM σ0 (r)) := by
  unfold fX12_save_196_body
  exact zpc_if (fun _ => zpc_some h) (fun _ => zpc_ck (zpc_ck (zpc_bs (zKeM.wl h) (fun σ1 hσ1 => zpc_ck (zpc_ck (zpc_bs (zKeM.wl hσ1) (fun σ2 hσ2 => zpc_bv (fun v3 _ => hk196 _ _ hσ2))))))))
theorem w_fX12_save_196 {σ0 : zSt} : ∀ (n : Nat) (y0 : zSt) (y1 : Int32), zKeM σ0 y0 → zpc (fX12_save_196 n y0 y1) (fun r => zKeM σ0 (r)) := by
  intro n
  induction n with
  | zero => intro y0 y1 h; exact zpc_none
  | succ n ih => intro y0 y1 h; exact w_fX12_save_196_body ih h
theorem w_fX12_save_170_body {σ0 : zSt} {k170 : zSt → Int32 → Option (zSt)} (hk170 : ∀ (y0 : zSt) (y1 : Int32), zKeM σ0 y0 → zpc (k170 y0 y1) (fun r => zKeM σ0 (r))) {σ : zSt} {x1 : Int32} (h : zKeM σ0 σ) : zpc (fX12_save_170_body k170 σ x1) (fun r => zKeM σ0 (r)) := by
  unfold fX12_save_170_body
  exact zpc_if (fun _ => w_fX12_save_196 _ _ _ h) (fun _ => zpc_ck (zpc_ck (zpc_bs (zKeM.wi h (by decide)) (fun σ4 hσ4 => zpc_bv (fun v5 _ => hk170 _ _ hσ4)))))
theorem w_fX12_save_170 {σ0 : zSt} : ∀ (n : Nat) (y0 : zSt) (y1 : Int32), zKeM σ0 y0 → zpc (fX12_save_170 n y0 y1) (fun r => zKeM σ0 (r)) := by
  intro n
  induction n with
  | zero => intro y0 y1 h; exact zpc_none
  | succ n ih => intro y0 y1 h; exact w_fX12_save_170_body ih h
theorem w_fX12_save_144_body {σ0 : zSt} {k144 : zSt → Int32 → Option (zSt)} (hk144 : ∀ (y0 : zSt) (y1 : Int32), zKeM σ0 y0 → zpc (k144 y0 y1) (fun r => zKeM σ0 (r))) {σ : zSt} {x1 : Int32} (h : zKeM σ0 σ) : zpc (fX12_save_144_body k144 σ x1) (fun r => zKeM σ0 (r)) := by
  unfold fX12_save_144_body
  exact zpc_if (fun _ => w_fX12_save_170 _ _ _ h) (fun _ => zpc_ck (zpc_ck (zpc_bs (zKeM.wi h (by decide)) (fun σ6 hσ6 => zpc_bv (fun v7 _ => hk144 _ _ hσ6)))))
theorem w_fX12_save_144 {σ0 : zSt} : ∀ (n : Nat) (y0 : zSt) (y1 : Int32), zKeM σ0 y0 → zpc (fX12_save_144 n y0 y1) (fun r => zKeM σ0 (r)) := by
  intro n
  induction n with
  | zero => intro y0 y1 h; exact zpc_none
  | succ n ih => intro y0 y1 h; exact w_fX12_save_144_body ih h
theorem w_fX12_save_117_body {σ0 : zSt} {k117 : zSt → Int32 → Option (zSt)} (hk117 : ∀ (y0 : zSt) (y1 : Int32), zKeM σ0 y0 → zpc (k117 y0 y1) (fun r => zKeM σ0 (r))) {σ : zSt} {x1 : Int32} (h : zKeM σ0 σ) : zpc (fX12_save_117_body k117 σ x1) (fun r => zKeM σ0 (r)) := by
  unfold fX12_save_117_body
  exact zpc_if (fun _ => w_fX12_save_144 _ _ _ h) (fun _ => zpc_ck (zpc_ck (zpc_bs (zKeM.wi h (by decide)) (fun σ8 hσ8 => zpc_bv (fun v9 _ => hk117 _ _ hσ8)))))
theorem w_fX12_save_117 {σ0 : zSt} : ∀ (n : Nat) (y0 : zSt) (y1 : Int32), zKeM σ0 y0 → zpc (fX12_save_117 n y0 y1) (fun r => zKeM σ0 (r)) := by
  intro n
  induction n with
  | zero => intro y0 y1 h; exact zpc_none
  | succ n ih => intro y0 y1 h; exact w_fX12_save_117_body ih h
theorem w_fX12_save_91_body {σ0 : zSt} {k91 : zSt → Int32 → Option (zSt)} (hk91 : ∀ (y0 : zSt) (y1 : Int32), zKeM σ0 y0 → zpc (k91 y0 y1) (fun r => zKeM σ0 (r))) {σ : zSt} {x1 : Int32} (h : zKeM σ0 σ) : zpc (fX12_save_91_body k91 σ x1) (fun r => zKeM σ0 (r)) := by
  unfold fX12_save_91_body
  exact zpc_if (fun _ => w_fX12_save_117 _ _ _ h) (fun _ => zpc_ck (zpc_ck (zpc_bs (zKeM.wi h (by decide)) (fun σ10 hσ10 => zpc_bv (fun v11 _ => hk91 _ _ hσ10)))))
theorem w_fX12_save_91 {σ0 : zSt} : ∀ (n : Nat) (y0 : zSt) (y1 : Int32), zKeM σ0 y0 → zpc (fX12_save_91 n y0 y1) (fun r => zKeM σ0 (r)) := by
  intro n
  induction n with
  | zero => intro y0 y1 h; exact zpc_none
  | succ n ih => intro y0 y1 h; exact w_fX12_save_91_body ih h
theorem w_fX12_save_64_body {σ0 : zSt} {k64 : zSt → Int32 → Option (zSt)} (hk64 : ∀ (y0 : zSt) (y1 : Int32), zKeM σ0 y0 → zpc (k64 y0 y1) (fun r => zKeM σ0 (r))) {σ : zSt} {x1 : Int32} (h : zKeM σ0 σ) : zpc (fX12_save_64_body k64 σ x1) (fun r => zKeM σ0 (r)) := by
  unfold fX12_save_64_body
  exact zpc_if (fun _ => w_fX12_save_91 _ _ _ h) (fun _ => zpc_ck (zpc_ck (zpc_bs (zKeM.wi h (by decide)) (fun σ12 hσ12 => zpc_bv (fun v13 _ => hk64 _ _ hσ12)))))
theorem w_fX12_save_64 {σ0 : zSt} : ∀ (n : Nat) (y0 : zSt) (y1 : Int32), zKeM σ0 y0 → zpc (fX12_save_64 n y0 y1) (fun r => zKeM σ0 (r)) := by
  intro n
  induction n with
  | zero => intro y0 y1 h; exact zpc_none
  | succ n ih => intro y0 y1 h; exact w_fX12_save_64_body ih h
theorem w_fX12_save_39_body {σ0 : zSt} {k39 : zSt → Int32 → Option (zSt)} (hk39 : ∀ (y0 : zSt) (y1 : Int32), zKeM σ0 y0 → zpc (k39 y0 y1) (fun r => zKeM σ0 (r))) {σ : zSt} {x1 : Int32} (h : zKeM σ0 σ) : zpc (fX12_save_39_body k39 σ x1) (fun r => zKeM σ0 (r)) := by
  unfold fX12_save_39_body
  exact zpc_if (fun _ => w_fX12_save_64 _ _ _ h) (fun _ => zpc_ck (zpc_ck (zpc_bs (zKeM.wl h) (fun σ14 hσ14 => zpc_bv (fun v15 _ => hk39 _ _ hσ14)))))
theorem w_fX12_save_39 {σ0 : zSt} : ∀ (n : Nat) (y0 : zSt) (y1 : Int32), zKeM σ0 y0 → zpc (fX12_save_39 n y0 y1) (fun r => zKeM σ0 (r)) := by
  intro n
  induction n with
  | zero => intro y0 y1 h; exact zpc_none
  | succ n ih => intro y0 y1 h; exact w_fX12_save_39_body ih h
theorem w_fX12_save_12_body {σ0 : zSt} {k12 : zSt → Int32 → Option (zSt)} (hk12 : ∀ (y0 : zSt) (y1 : Int32), zKeM σ0 y0 → zpc (k12 y0 y1) (fun r => zKeM σ0 (r))) {σ : zSt} {x1 : Int32} (h : zKeM σ0 σ) : zpc (fX12_save_12_body k12 σ x1) (fun r => zKeM σ0 (r)) := by
  unfold fX12_save_12_body
  exact zpc_if (fun _ => w_fX12_save_39 _ _ _ h) (fun _ => zpc_ck (zpc_ck (zpc_bs (zKeM.wi h (by decide)) (fun σ16 hσ16 => zpc_bv (fun v17 _ => hk12 _ _ hσ16)))))
theorem w_fX12_save_12 {σ0 : zSt} : ∀ (n : Nat) (y0 : zSt) (y1 : Int32), zKeM σ0 y0 → zpc (fX12_save_12 n y0 y1) (fun r => zKeM σ0 (r)) := by
  intro n
  induction n with
  | zero => intro y0 y1 h; exact zpc_none
  | succ n ih => intro y0 y1 h; exact w_fX12_save_12_body ih h
theorem w_fX12_save {σ0 : zSt} {σ : zSt} (h : zKeM σ0 σ) : zpc (fX12_save σ) (fun r => zKeM σ0 (r)) := by
  unfold fX12_save
  exact zpc_bs (zKeM.w0 h (by decide)) (fun σ18 hσ18 => zpc_ck (zpc_bs (zKeM.w0 hσ18 (by decide)) (fun σ19 hσ19 => w_fX12_save_12 _ _ _ hσ19)))
theorem w_fX12_restore_207_body {σ0 : zSt} {k207 : zSt → Int32 → Option (zSt)} (hk207 : ∀ (y0 : zSt) (y1 : Int32), zKeM σ0 y0 → zpc (k207 y0 y1) (fun r => zKeM σ0 (r))) {σ : zSt} {x1 : Int32} (h : zKeM σ0 σ) : zpc (fX12_restore_207_body k207 σ x1) (fun r => zKeM σ0 (r)) := by
  unfold fX12_restore_207_body
  exact zpc_if (fun _ => zpc_some h) (fun _ => zpc_ck (zpc_ck (zpc_bs (zKeM.wl h) (fun σ1 hσ1 => zpc_ck (zpc_ck (zpc_bs (zKeM.wl hσ1) (fun σ2 hσ2 => zpc_bv (fun v3 _ => hk207 _ _ hσ2))))))))
theorem w_fX12_restore_207 {σ0 : zSt} : ∀ (n : Nat) (y0 : zSt) (y1 : Int32), zKeM σ0 y0 → zpc (fX12_restore_207 n y0 y1) (fun r => zKeM σ0 (r)) := by
  intro n
  induction n with
  | zero => intro y0 y1 h; exact zpc_none
  | succ n ih => intro y0 y1 h; exact w_fX12_restore_207_body ih h
theorem w_fX12_restore_181_body {σ0 : zSt} {k181 : zSt → Int32 → Option (zSt)} (hk181 : ∀ (y0 : zSt) (y1 : Int32), zKeM σ0 y0 → zpc (k181 y0 y1) (fun r => zKeM σ0 (r))) {σ : zSt} {x1 : Int32} (h : zKeM σ0 σ) : zpc (fX12_restore_181_body k181 σ x1) (fun r => zKeM σ0 (r)) := by
  unfold fX12_restore_181_body
  exact zpc_if (fun _ => w_fX12_restore_207 _ _ _ h) (fun _ => zpc_ck (zpc_ck (zpc_bs (zKeM.wi h (by decide)) (fun σ4 hσ4 => zpc_bv (fun v5 _ => hk181 _ _ hσ4)))))
theorem w_fX12_restore_181 {σ0 : zSt} : ∀ (n : Nat) (y0 : zSt) (y1 : Int32), zKeM σ0 y0 → zpc (fX12_restore_181 n y0 y1) (fun r => zKeM σ0 (r)) := by
  intro n
  induction n with
  | zero => intro y0 y1 h; exact zpc_none
  | succ n ih => intro y0 y1 h; exact w_fX12_restore_181_body ih h
theorem w_fX12_restore_155_body {σ0 : zSt} {k155 : zSt → Int32 → Option (zSt)} (hk155 : ∀ (y0 : zSt) (y1 : Int32), zKeM σ0 y0 → zpc (k155 y0 y1) (fun r => zKeM σ0 (r))) {σ : zSt} {x1 : Int32} (h : zKeM σ0 σ) : zpc (fX12_restore_155_body k155 σ x1) (fun r => zKeM σ0 (r)) := by
  unfold fX12_restore_155_body
  exact zpc_if (fun _ => w_fX12_restore_181 _ _ _ h) (fun _ => zpc_ck (zpc_ck (zpc_bs (zKeM.wi h (by decide)) (fun σ6 hσ6 => zpc_bv (fun v7 _ => hk155 _ _ hσ6)))))
theorem w_fX12_restore_155 {σ0 : zSt} : ∀ (n : Nat) (y0 : zSt) (y1 : Int32), zKeM σ0 y0 → zpc (fX12_restore_155 n y0 y1) (fun r => zKeM σ0 (r)) := by
  intro n
  induction n with
  | zero => intro y0 y1 h; exact zpc_none
  | succ n ih => intro y0 y1 h; exact w_fX12_restore_155_body ih h
theorem w_fX12_restore_128_body {σ0 : zSt} {k128 : zSt → Int32 → Option (zSt)} (hk128 : ∀ (y0 : zSt) (y1 : Int32), zKeM σ0 y0 → zpc (k128 y0 y1) (fun r => zKeM σ0 (r))) {σ : zSt} {x1 : Int32} (h : zKeM σ0 σ) : zpc (fX12_restore_128_body k128 σ x1) (fun r => zKeM σ0 (r)) := by
  unfold fX12_restore_128_body
  exact zpc_if (fun _ => w_fX12_restore_155 _ _ _ h) (fun _ => zpc_ck (zpc_ck (zpc_bs (zKeM.wi h (by decide)) (fun σ8 hσ8 => zpc_bv (fun v9 _ => hk128 _ _ hσ8)))))
theorem w_fX12_restore_128 {σ0 : zSt} : ∀ (n : Nat) (y0 : zSt) (y1 : Int32), zKeM σ0 y0 → zpc (fX12_restore_128 n y0 y1) (fun r => zKeM σ0 (r)) := by
  intro n
  induction n with
  | zero => intro y0 y1 h; exact zpc_none
  | succ n ih => intro y0 y1 h; exact w_fX12_restore_128_body ih h
theorem w_fX12_restore_102_body {σ0 : zSt} {k102 : zSt → Int32 → Option (zSt)} (hk102 : ∀ (y0 : zSt) (y1 : Int32), zKeM σ0 y0 → zpc (k102 y0 y1) (fun r => zKeM σ0 (r))) {σ : zSt} {x1 : Int32} (h : zKeM σ0 σ) : zpc (fX12_restore_102_body k102 σ x1) (fun r => zKeM σ0 (r)) := by
  unfold fX12_restore_102_body
  exact zpc_if (fun _ => w_fX12_restore_128 _ _ _ h) (fun _ => zpc_ck (zpc_ck (zpc_bs (zKeM.wi h (by decide)) (fun σ10 hσ10 => zpc_bv (fun v11 _ => hk102 _ _ hσ10)))))
theorem w_fX12_restore_102 {σ0 : zSt} : ∀ (n : Nat) (y0 : zSt) (y1 : Int32), zKeM σ0 y0 → zpc (fX12_restore_102 n y0 y1) (fun r => zKeM σ0 (r)) := by
  intro n
  induction n with
  | zero => intro y0 y1 h; exact zpc_none
  | succ n ih => intro y0 y1 h; exact w_fX12_restore_102_body ih h
theorem w_fX12_restore_75_body {σ0 : zSt} {k75 : zSt → Int32 → Option (zSt)} (hk75 : ∀ (y0 : zSt) (y1 : Int32), zKeM σ0 y0 → zpc (k75 y0 y1) (fun r => zKeM σ0 (r))) {σ : zSt} {x1 : Int32} (h : zKeM σ0 σ) : zpc (fX12_restore_75_body k75 σ x1) (fun r => zKeM σ0 (r)) := by
  unfold fX12_restore_75_body
  exact zpc_if (fun _ => w_fX12_restore_102 _ _ _ h) (fun _ => zpc_ck (zpc_ck (zpc_bs (zKeM.wi h (by decide)) (fun σ12 hσ12 => zpc_bv (fun v13 _ => hk75 _ _ hσ12)))))
theorem w_fX12_restore_75 {σ0 : zSt} : ∀ (n : Nat) (y0 : zSt) (y1 : Int32), zKeM σ0 y0 → zpc (fX12_restore_75 n y0 y1) (fun r => zKeM σ0 (r)) := by
  intro n
  induction n with
  | zero => intro y0 y1 h; exact zpc_none
  | succ n ih => intro y0 y1 h; exact w_fX12_restore_75_body ih h
theorem w_fX12_restore_50_body {σ0 : zSt} {k50 : zSt → Int32 → Option (zSt)} (hk50 : ∀ (y0 : zSt) (y1 : Int32), zKeM σ0 y0 → zpc (k50 y0 y1) (fun r => zKeM σ0 (r))) {σ : zSt} {x1 : Int32} (h : zKeM σ0 σ) : zpc (fX12_restore_50_body k50 σ x1) (fun r => zKeM σ0 (r)) := by
  unfold fX12_restore_50_body
  exact zpc_if (fun _ => w_fX12_restore_75 _ _ _ h) (fun _ => zpc_ck (zpc_ck (zpc_bs (zKeM.wl h) (fun σ14 hσ14 => zpc_bv (fun v15 _ => hk50 _ _ hσ14)))))
theorem w_fX12_restore_50 {σ0 : zSt} : ∀ (n : Nat) (y0 : zSt) (y1 : Int32), zKeM σ0 y0 → zpc (fX12_restore_50 n y0 y1) (fun r => zKeM σ0 (r)) := by
  intro n
  induction n with
  | zero => intro y0 y1 h; exact zpc_none
  | succ n ih => intro y0 y1 h; exact w_fX12_restore_50_body ih h
theorem w_fX12_restore_23_body {σ0 : zSt} {k23 : zSt → Int32 → Option (zSt)} (hk23 : ∀ (y0 : zSt) (y1 : Int32), zKeM σ0 y0 → zpc (k23 y0 y1) (fun r => zKeM σ0 (r))) {σ : zSt} {x1 : Int32} (h : zKeM σ0 σ) : zpc (fX12_restore_23_body k23 σ x1) (fun r => zKeM σ0 (r)) := by
  unfold fX12_restore_23_body
  exact zpc_if (fun _ => w_fX12_restore_50 _ _ _ h) (fun _ => zpc_ck (zpc_ck (zpc_bs (zKeM.wi h (by decide)) (fun σ16 hσ16 => zpc_bv (fun v17 _ => hk23 _ _ hσ16)))))
theorem w_fX12_restore_23 {σ0 : zSt} : ∀ (n : Nat) (y0 : zSt) (y1 : Int32), zKeM σ0 y0 → zpc (fX12_restore_23 n y0 y1) (fun r => zKeM σ0 (r)) := by
  intro n
  induction n with
  | zero => intro y0 y1 h; exact zpc_none
  | succ n ih => intro y0 y1 h; exact w_fX12_restore_23_body ih h
theorem w_fX12_restore_13 {σ0 : zSt} {σ : zSt} {s0 : Int32} (h : zKeM σ0 σ) : zpc (fX12_restore_13 σ s0) (fun r => zKeM σ0 (r)) := by
  unfold fX12_restore_13
  exact zpc_bi (w_fX12_fails h) (fun σ18 v19 hσ18 => zpc_if (fun _ => w_fX12_restore_23 _ _ _ hσ18) (fun _ => zpc_some hσ18))
theorem w_fX12_restore {σ0 : zSt} {σ : zSt} (h : zKeM σ0 σ) : zpc (fX12_restore σ) (fun r => zKeM σ0 (r)) := by
  unfold fX12_restore
  exact zpc_if (fun _ => w_fX12_restore_13 h) (fun _ => w_fX12_restore_13 h)
theorem w_fX12_register_35 {σ0 : zSt} {σ : zSt} {s0 : Int32} (h : zKeM σ0 σ) : zpc (fX12_register_35 σ s0) (fun r => zKeM σ0 (r.1)) := by
  unfold fX12_register_35
  exact zpc_some h
theorem w_fX12_register_18 {σ0 : zSt} {σ : zSt} {x1 : Int32} {s0 : Int32} (h : zKeM σ0 σ) : zpc (fX12_register_18 σ x1 s0) (fun r => zKeM σ0 (r.1)) := by
  unfold fX12_register_18
  exact zpc_bi (w_fX12_fails h) (fun σ1 v2 hσ1 => zpc_if (fun _ => zpc_ck (w_fX12_register_35 hσ1)) (fun _ => w_fX12_register_35 hσ1))
theorem w_fX12_register {σ0 : zSt} {σ : zSt} {x1 : Int32} (h : zKeM σ0 σ) : zpc (fX12_register σ x1) (fun r => zKeM σ0 (r.1)) := by
  unfold fX12_register
  exact zpc_bi (w_fX12_within h) (fun σ3 v4 hσ3 => zpc_if (fun _ => w_fX12_register_18 hσ3) (fun _ => w_fX12_register_18 hσ3))
theorem w_fX12_set_105 {σ0 : zSt} {σ : zSt} (h : zKeM σ0 σ) : zpc (fX12_set_105 σ) (fun r => zKeM σ0 (r)) := by
  unfold fX12_set_105
  exact zpc_some h
theorem w_fX12_set_51 {σ0 : zSt} {σ : zSt} {s0 : Int32} {s1 : Int32} (h : zKeM σ0 σ) : zpc (fX12_set_51 σ s0 s1) (fun r => zKeM σ0 (r)) := by
  unfold fX12_set_51
  exact zpc_ck (zpc_bs (zKeM.wi h (by decide)) (fun σ1 hσ1 => w_fX12_set_105 hσ1))
theorem w_fX12_set_104 {σ0 : zSt} {σ : zSt} {s0 : Int32} {s1 : Int32} (h : zKeM σ0 σ) : zpc (fX12_set_104 σ s0 s1) (fun r => zKeM σ0 (r)) := by
  unfold fX12_set_104
  exact zpc_ck (zpc_bs (zKeM.wi h (by decide)) (fun σ2 hσ2 => w_fX12_set_105 hσ2))
theorem w_fX12_set_18 {σ0 : zSt} {σ : zSt} {x1 : Int32} {x2 : Int32} {s0 : Int32} (h : zKeM σ0 σ) : zpc (fX12_set_18 σ x1 x2 s0) (fun r => zKeM σ0 (r)) := by
  unfold fX12_set_18
  exact zpc_bi (w_fX12_fails h) (fun σ3 v4 hσ3 => zpc_if (fun _ => zpc_if (fun _ => zpc_if (fun _ => w_fX12_set_51 hσ3) (fun _ => w_fX12_set_51 hσ3)) (fun _ => zpc_if (fun _ => zpc_if (fun _ => zpc_if (fun _ => w_fX12_set_104 hσ3) (fun _ => w_fX12_set_104 hσ3)) (fun _ => w_fX12_set_104 hσ3)) (fun _ => w_fX12_set_104 hσ3))) (fun _ => zpc_some hσ3))
theorem w_fX12_set {σ0 : zSt} {σ : zSt} {x1 : Int32} {x2 : Int32} (h : zKeM σ0 σ) : zpc (fX12_set σ x1 x2) (fun r => zKeM σ0 (r)) := by
  unfold fX12_set
  exact zpc_bi (w_fX12_within h) (fun σ5 v6 hσ5 => zpc_if (fun _ => w_fX12_set_18 hσ5) (fun _ => w_fX12_set_18 hσ5))
theorem w_fX12_peek {σ0 : zSt} {σ : zSt} {x1 : Int32} (h : zKeM σ0 σ) : zpc (fX12_peek σ x1) (fun r => zKeM σ0 (r.1)) := by
  unfold fX12_peek
  exact zpc_bs (zKeM.w0 h (by decide)) (fun σ1 hσ1 => zpc_bi (w_fX12_read hσ1) (fun σ2 v3 hσ2 => zpc_some hσ2))
theorem w_fX12_poke {σ0 : zSt} {σ : zSt} {x1 : Int32} {x2 : Int32} (h : zKeM σ0 σ) : zpc (fX12_poke σ x1 x2) (fun r => zKeM σ0 (r)) := by
  unfold fX12_poke
  exact zpc_bs (zKeM.w0 h (by decide)) (fun σ1 hσ1 => zpc_bu (w_fX12_write hσ1) (fun σ2 hσ2 => zpc_some hσ2))
theorem w_fX12_in {σ0 : zSt} {σ : zSt} {x1 : Int32} (h : zKeM σ0 σ) : zpc (fX12_in σ x1) (fun r => zKeM σ0 (r.1)) := by
  unfold fX12_in
  exact zpc_bs (zKeM.w0 h (by decide)) (fun σ1 hσ1 => zpc_bi (w_fX12_port hσ1) (fun σ2 v3 hσ2 => zpc_some hσ2))
theorem w_fX12_out {σ0 : zSt} {σ : zSt} {x1 : Int32} {x2 : Int32} (h : zKeM σ0 σ) : zpc (fX12_out σ x1 x2) (fun r => zKeM σ0 (r)) := by
  unfold fX12_out
  exact zpc_bs (zKeM.w0 h (by decide)) (fun σ1 hσ1 => zpc_bu (w_fX12_portTo hσ1) (fun σ2 hσ2 => zpc_some hσ2))
theorem w_fX12_battery_39 {σ0 : zSt} {σ : zSt} {s0 : Int32} (h : zKeM σ0 σ) : zpc (fX12_battery_39 σ s0) (fun r => zKeM σ0 (r.1)) := by
  unfold fX12_battery_39
  exact zpc_some h
theorem w_fX12_battery_18 {σ0 : zSt} {σ : zSt} {x1 : Int32} {s0 : Int32} (h : zKeM σ0 σ) : zpc (fX12_battery_18 σ x1 s0) (fun r => zKeM σ0 (r.1)) := by
  unfold fX12_battery_18
  exact zpc_bi (w_fX12_fails h) (fun σ1 v2 hσ1 => zpc_if (fun _ => zpc_ck (w_fX12_battery_39 hσ1)) (fun _ => w_fX12_battery_39 hσ1))
theorem w_fX12_battery {σ0 : zSt} {σ : zSt} {x1 : Int32} (h : zKeM σ0 σ) : zpc (fX12_battery σ x1) (fun r => zKeM σ0 (r.1)) := by
  unfold fX12_battery
  exact zpc_bi (w_fX12_within h) (fun σ3 v4 hσ3 => zpc_if (fun _ => w_fX12_battery_18 hσ3) (fun _ => w_fX12_battery_18 hσ3))
theorem w_fX12_wipe_7_body {σ0 : zSt} {k7 : zSt → Int32 → Option (zSt)} (hk7 : ∀ (y0 : zSt) (y1 : Int32), zKeM σ0 y0 → zpc (k7 y0 y1) (fun r => zKeM σ0 (r))) {σ : zSt} {x1 : Int32} (h : zKeM σ0 σ) : zpc (fX12_wipe_7_body k7 σ x1) (fun r => zKeM σ0 (r)) := by
  unfold fX12_wipe_7_body
  exact zpc_if (fun _ => zpc_some h) (fun _ => zpc_ck (zpc_bs (zKeM.wi h (by decide)) (fun σ1 hσ1 => zpc_bv (fun v2 _ => hk7 _ _ hσ1))))
theorem w_fX12_wipe_7 {σ0 : zSt} : ∀ (n : Nat) (y0 : zSt) (y1 : Int32), zKeM σ0 y0 → zpc (fX12_wipe_7 n y0 y1) (fun r => zKeM σ0 (r)) := by
  intro n
  induction n with
  | zero => intro y0 y1 h; exact zpc_none
  | succ n ih => intro y0 y1 h; exact w_fX12_wipe_7_body ih h
theorem w_fX12_wipe {σ0 : zSt} {σ : zSt} (h : zKeM σ0 σ) : zpc (fX12_wipe σ) (fun r => zKeM σ0 (r)) := by
  unfold fX12_wipe
  exact zpc_bs (zKeM.w0 h (by decide)) (fun σ3 hσ3 => w_fX12_wipe_7 _ _ _ hσ3)
theorem w_fX12_video_11_body {σ0 : zSt} {k11 : zSt → Int32 → Int64 → Int32 → Option (zSt × Int64)} (hk11 : ∀ (y0 : zSt) (y1 : Int32) (y2 : Int64) (y3 : Int32), zKeM σ0 y0 → zpc (k11 y0 y1 y2 y3) (fun r => zKeM σ0 (r.1))) {σ : zSt} {x1 : Int32} {x2 : Int64} {x4 : Int32} (h : zKeM σ0 σ) : zpc (fX12_video_11_body k11 σ x1 x2 x4) (fun r => zKeM σ0 (r.1)) := by
  unfold fX12_video_11_body
  exact zpc_if (fun _ => zpc_some h) (fun _ => zpc_bi (w_fX12_video8 h) (fun σ1 v2 hσ1 => zpc_bv (fun v3 _ => zpc_bv (fun v4 _ => hk11 _ _ _ _ hσ1))))
theorem w_fX12_video_11 {σ0 : zSt} : ∀ (n : Nat) (y0 : zSt) (y1 : Int32) (y2 : Int64) (y3 : Int32), zKeM σ0 y0 → zpc (fX12_video_11 n y0 y1 y2 y3) (fun r => zKeM σ0 (r.1)) := by
  intro n
  induction n with
  | zero => intro y0 y1 y2 y3 h; exact zpc_none
  | succ n ih => intro y0 y1 y2 y3 h; exact w_fX12_video_11_body ih h
theorem w_fX12_video {σ0 : zSt} {σ : zSt} {x1 : Int32} (h : zKeM σ0 σ) : zpc (fX12_video σ x1) (fun r => zKeM σ0 (r.1)) := by
  unfold fX12_video
  exact zpc_bs (zKeM.w0 h (by decide)) (fun σ5 hσ5 => w_fX12_video_11 _ _ _ _ _ hσ5)
theorem w_fX12_chip_136 {σ0 : zSt} {σ : zSt} {s0 : Int32} (h : zKeM σ0 σ) : zpc (fX12_chip_136 σ s0) (fun r => zKeM σ0 (r.1)) := by
  unfold fX12_chip_136
  exact zpc_some h
theorem w_fX12_chip_32 {σ0 : zSt} {σ : zSt} {x1 : Int32} {s0 : Int32} (h : zKeM σ0 σ) : zpc (fX12_chip_32 σ x1 s0) (fun r => zKeM σ0 (r.1)) := by
  unfold fX12_chip_32
  exact zpc_bi (w_fX12_fails h) (fun σ1 v2 hσ1 => zpc_if (fun _ => zpc_if (fun _ => zpc_if (fun _ => zpc_if (fun _ => zpc_bi (w_fX12_asks hσ1) (fun σ3 v4 hσ3 => zpc_if (fun _ => w_fX12_chip_136 hσ3) (fun _ => w_fX12_chip_136 hσ3))) (fun _ => zpc_if (fun _ => zpc_ck (zpc_some hσ1)) (fun _ => zpc_if (fun _ => zpc_ck (zpc_some hσ1)) (fun _ => zpc_if (fun _ => zpc_ck (zpc_some hσ1)) (fun _ => zpc_if (fun _ => zpc_ck (zpc_some hσ1)) (fun _ => zpc_if (fun _ => zpc_bi (w_fX12_mode hσ1) (fun σ5 v6 hσ5 => zpc_some hσ5)) (fun _ => zpc_if (fun _ => zpc_bi (w_fX12_height hσ1) (fun σ7 v8 hσ7 => zpc_some hσ7)) (fun _ => zpc_if (fun _ => zpc_bi (w_fX12_hCount hσ1) (fun σ9 v10 hσ9 => zpc_some hσ9)) (fun _ => zpc_bi (w_fX12_vCount hσ1) (fun σ11 v12 hσ11 => zpc_some hσ11)))))))))) (fun _ => zpc_ck (zpc_some hσ1))) (fun _ => zpc_ck (zpc_some hσ1))) (fun _ => zpc_some hσ1))
theorem w_fX12_chip_31 {σ0 : zSt} {σ : zSt} {x1 : Int32} (h : zKeM σ0 σ) : zpc (fX12_chip_31 σ x1) (fun r => zKeM σ0 (r.1)) := by
  unfold fX12_chip_31
  exact w_fX12_chip_32 h
theorem w_fX12_chip {σ0 : zSt} {σ : zSt} {x1 : Int32} (h : zKeM σ0 σ) : zpc (fX12_chip σ x1) (fun r => zKeM σ0 (r.1)) := by
  unfold fX12_chip
  exact zpc_bi (w_fX12_within h) (fun σ13 v14 hσ13 => zpc_if (fun _ => zpc_bi (w_fX12_within hσ13) (fun σ15 v16 hσ15 => zpc_if (fun _ => w_fX12_chip_32 hσ15) (fun _ => w_fX12_chip_31 hσ15))) (fun _ => w_fX12_chip_31 hσ13))
theorem w_fX12_trace_50 {σ0 : zSt} {σ : zSt} {s0 : Int32} (h : zKeM σ0 σ) : zpc (fX12_trace_50 σ s0) (fun r => zKeM σ0 (r.1)) := by
  unfold fX12_trace_50
  exact zpc_some h
theorem w_fX12_trace_27 {σ0 : zSt} {σ : zSt} (h : zKeM σ0 σ) : zpc (fX12_trace_27 σ) (fun r => zKeM σ0 (r.1)) := by
  unfold fX12_trace_27
  exact w_fX12_trace_50 h
theorem w_fX12_trace {σ0 : zSt} {σ : zSt} {x1 : Int32} (h : zKeM σ0 σ) : zpc (fX12_trace σ x1) (fun r => zKeM σ0 (r.1)) := by
  unfold fX12_trace
  exact zpc_bs (zKeM.w0 h (by decide)) (fun σ1 hσ1 => zpc_bi (w_fX12_within hσ1) (fun σ2 v3 hσ2 => zpc_if (fun _ => w_fX12_trace_27 hσ2) (fun _ => zpc_if (fun _ => zpc_ck (zpc_ck (w_fX12_trace_50 hσ2))) (fun _ => w_fX12_trace_27 hσ2))))
theorem w_fX12_look_116 {σ0 : zSt} {σ : zSt} {x1 : Int32} (h : zKeM σ0 σ) : zpc (fX12_look_116 σ x1) (fun r => zKeM σ0 (r.1)) := by
  unfold fX12_look_116
  exact zpc_ck (zpc_some h)
theorem w_fX12_look_169 {σ0 : zSt} {σ : zSt} {x1 : Int32} (h : zKeM σ0 σ) : zpc (fX12_look_169 σ x1) (fun r => zKeM σ0 (r.1)) := by
  unfold fX12_look_169
  exact zpc_ck (zpc_some h)
theorem w_fX12_look_222 {σ0 : zSt} {σ : zSt} {s0 : Int64} (h : zKeM σ0 σ) : zpc (fX12_look_222 σ s0) (fun r => zKeM σ0 (r.1)) := by
  unfold fX12_look_222
  exact zpc_some h
theorem w_fX12_look_18 {σ0 : zSt} {σ : zSt} {x1 : Int32} {s0 : Int32} (h : zKeM σ0 σ) : zpc (fX12_look_18 σ x1 s0) (fun r => zKeM σ0 (r.1)) := by
  unfold fX12_look_18
  exact zpc_bi (w_fX12_fails h) (fun σ1 v2 hσ1 => zpc_if (fun _ => zpc_if (fun _ => w_fX12_look_116 hσ1) (fun _ => zpc_if (fun _ => w_fX12_look_116 hσ1) (fun _ => zpc_if (fun _ => w_fX12_look_116 hσ1) (fun _ => zpc_if (fun _ => zpc_ck (zpc_some hσ1)) (fun _ => zpc_if (fun _ => zpc_ck (zpc_some hσ1)) (fun _ => zpc_if (fun _ => zpc_some hσ1) (fun _ => zpc_if (fun _ => zpc_ck (zpc_some hσ1)) (fun _ => zpc_if (fun _ => zpc_some hσ1) (fun _ => zpc_if (fun _ => zpc_ck (zpc_some hσ1)) (fun _ => zpc_if (fun _ => w_fX12_look_169 hσ1) (fun _ => zpc_if (fun _ => w_fX12_look_169 hσ1) (fun _ => zpc_if (fun _ => w_fX12_look_169 hσ1) (fun _ => zpc_if (fun _ => zpc_ck (zpc_some hσ1)) (fun _ => zpc_if (fun _ => zpc_ck (zpc_some hσ1)) (fun _ => zpc_if (fun _ => zpc_ck (zpc_some hσ1)) (fun _ => zpc_if (fun _ => zpc_if (fun _ => w_fX12_look_222 hσ1) (fun _ => w_fX12_look_222 hσ1)) (fun _ => zpc_if (fun _ => zpc_ck (zpc_some hσ1)) (fun _ => zpc_if (fun _ => zpc_ck (zpc_some hσ1)) (fun _ => zpc_some hσ1))))))))))))))))))) (fun _ => zpc_some hσ1))
theorem w_fX12_look {σ0 : zSt} {σ : zSt} {x1 : Int32} (h : zKeM σ0 σ) : zpc (fX12_look σ x1) (fun r => zKeM σ0 (r.1)) := by
  unfold fX12_look
  exact zpc_bi (w_fX12_within h) (fun σ3 v4 hσ3 => zpc_if (fun _ => w_fX12_look_18 hσ3) (fun _ => w_fX12_look_18 hσ3))
theorem w_fX12_mix_17 {σ0 : zSt} {σ : zSt} {s0 : Int32} (h : zKeM σ0 σ) : zpc (fX12_mix_17 σ s0) (fun r => zKeM σ0 (r.1)) := by
  unfold fX12_mix_17
  exact zpc_bi (w_fX12_fails h) (fun σ1 v2 hσ1 => zpc_if (fun _ => zpc_ck (zpc_ck (zpc_bv (fun v3 _ => zpc_ck (zpc_ck (zpc_ck (zpc_bs (zKeM.wi hσ1 (by decide)) (fun σ4 hσ4 => zpc_ck (zpc_ck (zpc_bs (zKeM.wi hσ4 (by decide)) (fun σ5 hσ5 => zpc_some hσ5))))))))))) (fun _ => zpc_some hσ1))
theorem w_fX12_mix {σ0 : zSt} {σ : zSt} (h : zKeM σ0 σ) : zpc (fX12_mix σ) (fun r => zKeM σ0 (r.1)) := by
  unfold fX12_mix
  exact zpc_ck (zpc_if (fun _ => w_fX12_mix_17 h) (fun _ => w_fX12_mix_17 h))
theorem w_fX12_wave_41 {σ0 : zSt} {σ : zSt} {x1 : Int32} {s0 : Int32} (h : zKeM σ0 σ) : zpc (fX12_wave_41 σ x1 s0) (fun r => zKeM σ0 (r.1)) := by
  unfold fX12_wave_41
  exact zpc_bi (w_fX12_fails h) (fun σ1 v2 hσ1 => zpc_if (fun _ => zpc_if (fun _ => zpc_if (fun _ => zpc_ck (zpc_some hσ1)) (fun _ => zpc_if (fun _ => zpc_ck (zpc_some hσ1)) (fun _ => zpc_if (fun _ => zpc_ck (zpc_ck (zpc_some hσ1))) (fun _ => zpc_if (fun _ => zpc_ck (zpc_some hσ1)) (fun _ => zpc_ck (zpc_ck (zpc_ck (zpc_some hσ1)))))))) (fun _ => zpc_bi (w_fX12_wreg hσ1) (fun σ3 v4 hσ3 => zpc_some hσ3))) (fun _ => zpc_some hσ1))
theorem w_fX12_wave_40 {σ0 : zSt} {σ : zSt} {x1 : Int32} (h : zKeM σ0 σ) : zpc (fX12_wave_40 σ x1) (fun r => zKeM σ0 (r.1)) := by
  unfold fX12_wave_40
  exact w_fX12_wave_41 h
theorem w_fX12_wave_36 {σ0 : zSt} {σ : zSt} {x1 : Int32} (h : zKeM σ0 σ) : zpc (fX12_wave_36 σ x1) (fun r => zKeM σ0 (r.1)) := by
  unfold fX12_wave_36
  exact w_fX12_wave_41 h
theorem w_fX12_wave {σ0 : zSt} {σ : zSt} {x1 : Int32} (h : zKeM σ0 σ) : zpc (fX12_wave σ x1) (fun r => zKeM σ0 (r.1)) := by
  unfold fX12_wave
  exact zpc_bi (w_fX12_within h) (fun σ5 v6 hσ5 => zpc_if (fun _ => zpc_bi (w_fX12_within hσ5) (fun σ7 v8 hσ7 => zpc_if (fun _ => w_fX12_wave_36 hσ7) (fun _ => zpc_ck (zpc_if (fun _ => w_fX12_wave_40 hσ7) (fun _ => w_fX12_wave_36 hσ7))))) (fun _ => w_fX12_wave_40 hσ5))
theorem w_fX12_plan_110 {σ0 : zSt} {σ : zSt} (h : zKeM σ0 σ) : zpc (fX12_plan_110 σ) (fun r => zKeM σ0 (r.1)) := by
  unfold fX12_plan_110
  exact zpc_some h
theorem w_fX12_plan_103 {σ0 : zSt} {σ : zSt} {x1 : Int32} {x2 : Int32} {x3 : Int32} {s0 : Int32} (h : zKeM σ0 σ) : zpc (fX12_plan_103 σ x1 x2 x3 s0) (fun r => zKeM σ0 (r.1)) := by
  unfold fX12_plan_103
  exact zpc_bi (w_fX12_fails h) (fun σ1 v2 hσ1 => zpc_if (fun _ => zpc_ck (zpc_bv (fun v3 _ => zpc_ck (zpc_bs (zKeM.wi hσ1 (by decide)) (fun σ4 hσ4 => zpc_ck (zpc_bs (zKeM.wi hσ4 (by decide)) (fun σ5 hσ5 => zpc_ck (zpc_bs (zKeM.wi hσ5 (by decide)) (fun σ6 hσ6 => zpc_ck (zpc_ck (zpc_bs (zKeM.wi hσ6 (by decide)) (fun σ7 hσ7 => zpc_ck (zpc_some hσ7))))))))))))) (fun _ => w_fX12_plan_110 hσ1))
theorem w_fX12_plan_76 {σ0 : zSt} {σ : zSt} {x1 : Int32} {x2 : Int32} {x3 : Int32} {s0 : Int32} (h : zKeM σ0 σ) : zpc (fX12_plan_76 σ x1 x2 x3 s0) (fun r => zKeM σ0 (r.1)) := by
  unfold fX12_plan_76
  exact zpc_bi (w_fX12_fails h) (fun σ8 v9 hσ8 => zpc_if (fun _ => zpc_ck (zpc_if (fun _ => w_fX12_plan_103 hσ8) (fun _ => w_fX12_plan_103 hσ8))) (fun _ => w_fX12_plan_110 hσ8))
theorem w_fX12_plan_71 {σ0 : zSt} {σ : zSt} {x1 : Int32} {x2 : Int32} {x3 : Int32} (h : zKeM σ0 σ) : zpc (fX12_plan_71 σ x1 x2 x3) (fun r => zKeM σ0 (r.1)) := by
  unfold fX12_plan_71
  exact w_fX12_plan_76 h
theorem w_fX12_plan_36 {σ0 : zSt} {σ : zSt} {x1 : Int32} {x2 : Int32} {x3 : Int32} {s0 : Int32} (h : zKeM σ0 σ) : zpc (fX12_plan_36 σ x1 x2 x3 s0) (fun r => zKeM σ0 (r.1)) := by
  unfold fX12_plan_36
  exact zpc_if (fun _ => w_fX12_plan_71 h) (fun _ => zpc_if (fun _ => w_fX12_plan_71 h) (fun _ => zpc_bi (w_fX12_within h) (fun σ10 v11 hσ10 => zpc_if (fun _ => w_fX12_plan_71 hσ10) (fun _ => zpc_bi (w_fX12_within hσ10) (fun σ12 v13 hσ12 => zpc_if (fun _ => w_fX12_plan_71 hσ12) (fun _ => w_fX12_plan_76 hσ12))))))
theorem w_fX12_plan {σ0 : zSt} {σ : zSt} {x1 : Int32} {x2 : Int32} {x3 : Int32} (h : zKeM σ0 σ) : zpc (fX12_plan σ x1 x2 x3) (fun r => zKeM σ0 (r.1)) := by
  unfold fX12_plan
  exact zpc_ck (zpc_if (fun _ => w_fX12_plan_36 h) (fun _ => zpc_ck (zpc_ck (w_fX12_plan_36 h))))
theorem w_fX12_say_2_body {σ0 : zSt} {k2 : zSt → Nat → Int32 → Option (zSt)} (hk2 : ∀ (y0 : zSt) (y1 : Nat) (y2 : Int32), zKeM σ0 y0 → zpc (k2 y0 y1 y2) (fun r => zKeM σ0 (r))) {σ : zSt} {n1 : Nat} {x2 : Int32} (h : zKeM σ0 σ) : zpc (fX12_say_2_body k2 σ n1 x2) (fun r => zKeM σ0 (r)) := by
  unfold fX12_say_2_body
  exact zpc_ck (zpc_if (fun _ => zpc_some h) (fun _ => zpc_ck (zpc_ck (zpc_ck (zpc_bs (zKeM.wi h (by decide)) (fun σ1 hσ1 => zpc_bs (zKeM.w0 hσ1 (by decide)) (fun σ2 hσ2 => zpc_bv (fun v3 _ => hk2 _ _ _ hσ2))))))))
theorem w_fX12_say_2 {σ0 : zSt} : ∀ (n : Nat) (y0 : zSt) (y1 : Nat) (y2 : Int32), zKeM σ0 y0 → zpc (fX12_say_2 n y0 y1 y2) (fun r => zKeM σ0 (r)) := by
  intro n
  induction n with
  | zero => intro y0 y1 y2 h; exact zpc_none
  | succ n ih => intro y0 y1 y2 h; exact w_fX12_say_2_body ih h
theorem w_fX12_say {σ0 : zSt} {σ : zSt} {n1 : Nat} (h : zKeM σ0 σ) : zpc (fX12_say σ n1) (fun r => zKeM σ0 (r)) := by
  unfold fX12_say
  exact w_fX12_say_2 _ _ _ _ h
theorem w_fX12_hex_49 {σ0 : zSt} {k4 : zSt → Int32 → Int32 → Option (zSt)} (hk4 : ∀ (y0 : zSt) (y1 : Int32) (y2 : Int32), zKeM σ0 y0 → zpc (k4 y0 y1 y2) (fun r => zKeM σ0 (r))) {σ : zSt} {x1 : Int32} {x3 : Int32} {s0 : Int32} {s1 : Int32} (h : zKeM σ0 σ) : zpc (fX12_hex_49 k4 σ x1 x3 s0 s1) (fun r => zKeM σ0 (r)) := by
  unfold fX12_hex_49
  exact zpc_ck (zpc_bs (zKeM.wi h (by decide)) (fun σ1 hσ1 => zpc_bs (zKeM.w0 hσ1 (by decide)) (fun σ2 hσ2 => zpc_bv (fun v3 _ => hk4 _ _ _ hσ2))))
theorem w_fX12_hex_4_body {σ0 : zSt} {k4 : zSt → Int32 → Int32 → Option (zSt)} (hk4 : ∀ (y0 : zSt) (y1 : Int32) (y2 : Int32), zKeM σ0 y0 → zpc (k4 y0 y1 y2) (fun r => zKeM σ0 (r))) {σ : zSt} {x1 : Int32} {x3 : Int32} (h : zKeM σ0 σ) : zpc (fX12_hex_4_body k4 σ x1 x3) (fun r => zKeM σ0 (r)) := by
  unfold fX12_hex_4_body
  exact zpc_if (fun _ => zpc_some h) (fun _ => zpc_bv (fun v4 _ => zpc_if (fun _ => w_fX12_hex_49 hk4 h) (fun _ => w_fX12_hex_49 hk4 h)))
theorem w_fX12_hex_4 {σ0 : zSt} : ∀ (n : Nat) (y0 : zSt) (y1 : Int32) (y2 : Int32), zKeM σ0 y0 → zpc (fX12_hex_4 n y0 y1 y2) (fun r => zKeM σ0 (r)) := by
  intro n
  induction n with
  | zero => intro y0 y1 y2 h; exact zpc_none
  | succ n ih => intro y0 y1 y2 h; exact w_fX12_hex_4_body ih h
theorem w_fX12_hex {σ0 : zSt} {σ : zSt} {x1 : Int32} {x2 : Int32} (h : zKeM σ0 σ) : zpc (fX12_hex σ x1 x2) (fun r => zKeM σ0 (r)) := by
  unfold fX12_hex
  exact zpc_bv (fun v5 _ => w_fX12_hex_4 _ _ _ _ h)
theorem w_fX12_taken {σ0 : zSt} {σ : zSt} (h : zKeM σ0 σ) : zpc (fX12_taken σ) (fun r => zKeM σ0 (r.1)) := by
  unfold fX12_taken
  exact zpc_bi (w_fX12_read h) (fun σ1 v2 hσ1 => zpc_bs (zKeM.w0 hσ1 (by decide)) (fun σ3 hσ3 => zpc_some hσ3))
theorem w_fX12_takenWord {σ0 : zSt} {σ : zSt} (h : zKeM σ0 σ) : zpc (fX12_takenWord σ) (fun r => zKeM σ0 (r.1)) := by
  unfold fX12_takenWord
  exact zpc_bi (w_fX12_taken h) (fun σ1 v2 hσ1 => zpc_bi (w_fX12_taken hσ1) (fun σ3 v4 hσ3 => zpc_some hσ3))
theorem w_fX12_sayHl_31 {σ0 : zSt} {σ : zSt} {s0 : Nat} (h : zKeM σ0 σ) : zpc (fX12_sayHl_31 σ s0) (fun r => zKeM σ0 (r)) := by
  unfold fX12_sayHl_31
  exact zpc_bu (w_fX12_say h) (fun σ1 hσ1 => zpc_some hσ1)
theorem w_fX12_sayHl {σ0 : zSt} {σ : zSt} (h : zKeM σ0 σ) : zpc (fX12_sayHl σ) (fun r => zKeM σ0 (r)) := by
  unfold fX12_sayHl
  exact zpc_if (fun _ => w_fX12_sayHl_31 h) (fun _ => zpc_if (fun _ => w_fX12_sayHl_31 h) (fun _ => w_fX12_sayHl_31 h))
theorem w_fX12_sayPlace_76 {σ0 : zSt} {σ : zSt} {s0 : Int32} (h : zKeM σ0 σ) : zpc (fX12_sayPlace_76 σ s0) (fun r => zKeM σ0 (r)) := by
  unfold fX12_sayPlace_76
  exact zpc_bu (w_fX12_hex h) (fun σ1 hσ1 => zpc_bu (w_fX12_say hσ1) (fun σ2 hσ2 => zpc_some hσ2))
theorem w_fX12_sayPlace_53 {σ0 : zSt} {σ : zSt} {s0 : Nat} (h : zKeM σ0 σ) : zpc (fX12_sayPlace_53 σ s0) (fun r => zKeM σ0 (r)) := by
  unfold fX12_sayPlace_53
  exact zpc_bu (w_fX12_say h) (fun σ3 hσ3 => zpc_if (fun _ => w_fX12_sayPlace_76 hσ3) (fun _ => w_fX12_sayPlace_76 hσ3))
theorem w_fX12_sayPlace_33 {σ0 : zSt} {σ : zSt} {s0 : Nat} (h : zKeM σ0 σ) : zpc (fX12_sayPlace_33 σ s0) (fun r => zKeM σ0 (r)) := by
  unfold fX12_sayPlace_33
  exact zpc_bu (w_fX12_say h) (fun σ4 hσ4 => zpc_if (fun _ => w_fX12_sayPlace_53 hσ4) (fun _ => w_fX12_sayPlace_53 hσ4))
theorem w_fX12_sayPlace {σ0 : zSt} {σ : zSt} (h : zKeM σ0 σ) : zpc (fX12_sayPlace σ) (fun r => zKeM σ0 (r)) := by
  unfold fX12_sayPlace
  exact zpc_if (fun _ => zpc_bu (w_fX12_say h) (fun σ5 hσ5 => zpc_some hσ5)) (fun _ => zpc_if (fun _ => w_fX12_sayPlace_33 h) (fun _ => w_fX12_sayPlace_33 h))
theorem w_fX12_sayR_108 {σ0 : zSt} {σ : zSt} {s0 : Nat} (h : zKeM σ0 σ) : zpc (fX12_sayR_108 σ s0) (fun r => zKeM σ0 (r)) := by
  unfold fX12_sayR_108
  exact zpc_bu (w_fX12_say h) (fun σ1 hσ1 => zpc_some hσ1)
theorem w_fX12_sayR_39 {σ0 : zSt} {σ : zSt} {x1 : Int32} (h : zKeM σ0 σ) : zpc (fX12_sayR_39 σ x1) (fun r => zKeM σ0 (r)) := by
  unfold fX12_sayR_39
  exact zpc_if (fun _ => w_fX12_sayR_108 h) (fun _ => zpc_if (fun _ => w_fX12_sayR_108 h) (fun _ => zpc_if (fun _ => w_fX12_sayR_108 h) (fun _ => zpc_if (fun _ => w_fX12_sayR_108 h) (fun _ => zpc_if (fun _ => w_fX12_sayR_108 h) (fun _ => zpc_if (fun _ => w_fX12_sayR_108 h) (fun _ => w_fX12_sayR_108 h))))))
theorem w_fX12_sayR_35 {σ0 : zSt} {σ : zSt} {x1 : Int32} (h : zKeM σ0 σ) : zpc (fX12_sayR_35 σ x1) (fun r => zKeM σ0 (r)) := by
  unfold fX12_sayR_35
  exact zpc_bu (w_fX12_sayHl h) (fun σ2 hσ2 => w_fX12_sayR_39 hσ2)
theorem w_fX12_sayR {σ0 : zSt} {σ : zSt} {x1 : Int32} (h : zKeM σ0 σ) : zpc (fX12_sayR σ x1) (fun r => zKeM σ0 (r)) := by
  unfold fX12_sayR
  exact zpc_if (fun _ => zpc_bu (w_fX12_sayPlace h) (fun σ3 hσ3 => zpc_some hσ3)) (fun _ => zpc_if (fun _ => w_fX12_sayR_39 h) (fun _ => zpc_if (fun _ => zpc_if (fun _ => w_fX12_sayR_35 h) (fun _ => zpc_if (fun _ => w_fX12_sayR_35 h) (fun _ => w_fX12_sayR_39 h))) (fun _ => w_fX12_sayR_39 h)))
theorem w_fX12_sayRp_50 {σ0 : zSt} {σ : zSt} (h : zKeM σ0 σ) : zpc (fX12_sayRp_50 σ) (fun r => zKeM σ0 (r)) := by
  unfold fX12_sayRp_50
  exact zpc_some h
theorem w_fX12_sayRp_47 {σ0 : zSt} {σ : zSt} {s0 : Nat} (h : zKeM σ0 σ) : zpc (fX12_sayRp_47 σ s0) (fun r => zKeM σ0 (r)) := by
  unfold fX12_sayRp_47
  exact zpc_bu (w_fX12_say h) (fun σ1 hσ1 => w_fX12_sayRp_50 hσ1)
theorem w_fX12_sayRp {σ0 : zSt} {σ : zSt} {x1 : Int32} {x2 : Int32} (h : zKeM σ0 σ) : zpc (fX12_sayRp σ x1 x2) (fun r => zKeM σ0 (r)) := by
  unfold fX12_sayRp
  exact zpc_if (fun _ => zpc_bu (w_fX12_sayHl h) (fun σ2 hσ2 => w_fX12_sayRp_50 hσ2)) (fun _ => zpc_if (fun _ => w_fX12_sayRp_47 h) (fun _ => zpc_if (fun _ => w_fX12_sayRp_47 h) (fun _ => zpc_if (fun _ => w_fX12_sayRp_47 h) (fun _ => w_fX12_sayRp_47 h))))
theorem w_fX12_sayCc_81 {σ0 : zSt} {σ : zSt} {s0 : Nat} (h : zKeM σ0 σ) : zpc (fX12_sayCc_81 σ s0) (fun r => zKeM σ0 (r)) := by
  unfold fX12_sayCc_81
  exact zpc_bu (w_fX12_say h) (fun σ1 hσ1 => zpc_some hσ1)
theorem w_fX12_sayCc {σ0 : zSt} {σ : zSt} {x1 : Int32} (h : zKeM σ0 σ) : zpc (fX12_sayCc σ x1) (fun r => zKeM σ0 (r)) := by
  unfold fX12_sayCc
  exact zpc_if (fun _ => w_fX12_sayCc_81 h) (fun _ => zpc_if (fun _ => w_fX12_sayCc_81 h) (fun _ => zpc_if (fun _ => w_fX12_sayCc_81 h) (fun _ => zpc_if (fun _ => w_fX12_sayCc_81 h) (fun _ => zpc_if (fun _ => w_fX12_sayCc_81 h) (fun _ => zpc_if (fun _ => w_fX12_sayCc_81 h) (fun _ => zpc_if (fun _ => w_fX12_sayCc_81 h) (fun _ => w_fX12_sayCc_81 h)))))))
theorem w_fX12_sayPlaced {σ0 : zSt} {σ : zSt} {x1 : Int32} (h : zKeM σ0 σ) : zpc (fX12_sayPlaced σ x1) (fun r => zKeM σ0 (r)) := by
  unfold fX12_sayPlaced
  exact zpc_bu (w_fX12_say h) (fun σ1 hσ1 => zpc_bu (w_fX12_hex hσ1) (fun σ2 hσ2 => zpc_bu (w_fX12_say hσ2) (fun σ3 hσ3 => zpc_some hσ3)))
theorem w_fX12_sayJump {σ0 : zSt} {σ : zSt} (h : zKeM σ0 σ) : zpc (fX12_sayJump σ) (fun r => zKeM σ0 (r)) := by
  unfold fX12_sayJump
  exact zpc_bi (w_fX12_taken h) (fun σ1 v2 hσ1 => zpc_bi (w_fX12_signed hσ1) (fun σ3 v4 hσ3 => zpc_bu (w_fX12_hex hσ3) (fun σ5 hσ5 => zpc_some hσ5)))
theorem w_fX12_sayDo_81 {σ0 : zSt} {σ : zSt} {s0 : Nat} (h : zKeM σ0 σ) : zpc (fX12_sayDo_81 σ s0) (fun r => zKeM σ0 (r)) := by
  unfold fX12_sayDo_81
  exact zpc_bu (w_fX12_say h) (fun σ1 hσ1 => zpc_some hσ1)
theorem w_fX12_sayDo {σ0 : zSt} {σ : zSt} {x1 : Int32} (h : zKeM σ0 σ) : zpc (fX12_sayDo σ x1) (fun r => zKeM σ0 (r)) := by
  unfold fX12_sayDo
  exact zpc_if (fun _ => w_fX12_sayDo_81 h) (fun _ => zpc_if (fun _ => w_fX12_sayDo_81 h) (fun _ => zpc_if (fun _ => w_fX12_sayDo_81 h) (fun _ => zpc_if (fun _ => w_fX12_sayDo_81 h) (fun _ => zpc_if (fun _ => w_fX12_sayDo_81 h) (fun _ => zpc_if (fun _ => w_fX12_sayDo_81 h) (fun _ => zpc_if (fun _ => w_fX12_sayDo_81 h) (fun _ => w_fX12_sayDo_81 h)))))))
theorem w_fX12_sayTurn_146 {σ0 : zSt} {σ : zSt} {x1 : Int32} (h : zKeM σ0 σ) : zpc (fX12_sayTurn_146 σ x1) (fun r => zKeM σ0 (r)) := by
  unfold fX12_sayTurn_146
  exact zpc_bu (w_fX12_sayR h) (fun σ1 hσ1 => zpc_some hσ1)
theorem w_fX12_sayTurn_94 {σ0 : zSt} {σ : zSt} {x1 : Int32} {s0 : Nat} (h : zKeM σ0 σ) : zpc (fX12_sayTurn_94 σ x1 s0) (fun r => zKeM σ0 (r)) := by
  unfold fX12_sayTurn_94
  exact zpc_bu (w_fX12_say h) (fun σ2 hσ2 => w_fX12_sayTurn_146 hσ2)
theorem w_fX12_sayTurn_130 {σ0 : zSt} {σ : zSt} {x1 : Int32} {x2 : Int32} {s0 : Nat} (h : zKeM σ0 σ) : zpc (fX12_sayTurn_130 σ x1 x2 s0) (fun r => zKeM σ0 (r)) := by
  unfold fX12_sayTurn_130
  exact zpc_bu (w_fX12_say h) (fun σ3 hσ3 => zpc_bu (w_fX12_hex hσ3) (fun σ4 hσ4 => zpc_bu (w_fX12_say hσ4) (fun σ5 hσ5 => w_fX12_sayTurn_146 hσ5)))
theorem w_fX12_sayTurn {σ0 : zSt} {σ : zSt} {x1 : Int32} (h : zKeM σ0 σ) : zpc (fX12_sayTurn σ x1) (fun r => zKeM σ0 (r)) := by
  unfold fX12_sayTurn
  exact zpc_bv (fun v6 _ => zpc_if (fun _ => zpc_if (fun _ => zpc_if (fun _ => w_fX12_sayTurn_130 h) (fun _ => w_fX12_sayTurn_130 h)) (fun _ => w_fX12_sayTurn_130 h)) (fun _ => zpc_if (fun _ => w_fX12_sayTurn_94 h) (fun _ => zpc_if (fun _ => w_fX12_sayTurn_94 h) (fun _ => zpc_if (fun _ => w_fX12_sayTurn_94 h) (fun _ => zpc_if (fun _ => w_fX12_sayTurn_94 h) (fun _ => zpc_if (fun _ => w_fX12_sayTurn_94 h) (fun _ => zpc_if (fun _ => w_fX12_sayTurn_94 h) (fun _ => zpc_if (fun _ => w_fX12_sayTurn_94 h) (fun _ => w_fX12_sayTurn_94 h)))))))))
theorem w_fX12_sayZero_301 {σ0 : zSt} {σ : zSt} (h : zKeM σ0 σ) : zpc (fX12_sayZero_301 σ) (fun r => zKeM σ0 (r)) := by
  unfold fX12_sayZero_301
  exact zpc_some h
theorem w_fX12_sayZero_80 {σ0 : zSt} {σ : zSt} {x1 : Int32} (h : zKeM σ0 σ) : zpc (fX12_sayZero_80 σ x1) (fun r => zKeM σ0 (r)) := by
  unfold fX12_sayZero_80
  exact zpc_if (fun _ => w_fX12_sayZero_301 h) (fun _ => zpc_bu (w_fX12_sayJump h) (fun σ1 hσ1 => w_fX12_sayZero_301 hσ1))
theorem w_fX12_sayZero_58 {σ0 : zSt} {σ : zSt} {x1 : Int32} {s0 : Nat} (h : zKeM σ0 σ) : zpc (fX12_sayZero_58 σ x1 s0) (fun r => zKeM σ0 (r)) := by
  unfold fX12_sayZero_58
  exact zpc_bu (w_fX12_say h) (fun σ2 hσ2 => zpc_if (fun _ => w_fX12_sayZero_80 hσ2) (fun _ => zpc_bu (w_fX12_sayCc hσ2) (fun σ3 hσ3 => zpc_bu (w_fX12_say hσ3) (fun σ4 hσ4 => w_fX12_sayZero_80 hσ4))))
theorem w_fX12_sayZero_133 {σ0 : zSt} {σ : zSt} {x3 : Int32} {x4 : Int32} (h : zKeM σ0 σ) : zpc (fX12_sayZero_133 σ x3 x4) (fun r => zKeM σ0 (r)) := by
  unfold fX12_sayZero_133
  exact zpc_bu (w_fX12_say h) (fun σ5 hσ5 => zpc_if (fun _ => zpc_bi (w_fX12_takenWord hσ5) (fun σ6 v7 hσ6 => zpc_bu (w_fX12_hex hσ6) (fun σ8 hσ8 => w_fX12_sayZero_301 hσ8))) (fun _ => zpc_bu (w_fX12_sayRp hσ5) (fun σ9 hσ9 => w_fX12_sayZero_301 hσ9)))
theorem w_fX12_sayZero_112 {σ0 : zSt} {σ : zSt} {x3 : Int32} {x4 : Int32} {s0 : Nat} (h : zKeM σ0 σ) : zpc (fX12_sayZero_112 σ x3 x4 s0) (fun r => zKeM σ0 (r)) := by
  unfold fX12_sayZero_112
  exact zpc_bu (w_fX12_say h) (fun σ10 hσ10 => zpc_if (fun _ => zpc_bu (w_fX12_sayRp hσ10) (fun σ11 hσ11 => w_fX12_sayZero_133 hσ11)) (fun _ => zpc_bu (w_fX12_sayHl hσ10) (fun σ12 hσ12 => w_fX12_sayZero_133 hσ12)))
theorem w_fX12_sayZero_186 {σ0 : zSt} {σ : zSt} {x3 : Int32} {s0 : Nat} (h : zKeM σ0 σ) : zpc (fX12_sayZero_186 σ x3 s0) (fun r => zKeM σ0 (r)) := by
  unfold fX12_sayZero_186
  exact zpc_bu (w_fX12_say h) (fun σ13 hσ13 => zpc_bu (w_fX12_sayRp hσ13) (fun σ14 hσ14 => w_fX12_sayZero_301 hσ14))
theorem w_fX12_sayZero_269 {σ0 : zSt} {σ : zSt} {x3 : Int32} {x4 : Int32} (h : zKeM σ0 σ) : zpc (fX12_sayZero_269 σ x3 x4) (fun r => zKeM σ0 (r)) := by
  unfold fX12_sayZero_269
  exact zpc_if (fun _ => zpc_bu (w_fX12_say h) (fun σ15 hσ15 => zpc_if (fun _ => zpc_bu (w_fX12_sayHl hσ15) (fun σ17 hσ17 => w_fX12_sayZero_301 hσ17)) (fun _ => zpc_bu (w_fX12_say hσ15) (fun σ16 hσ16 => w_fX12_sayZero_301 hσ16)))) (fun _ => zpc_some h)
theorem w_fX12_sayZero_255 {σ0 : zSt} {σ : zSt} {x3 : Int32} {x4 : Int32} {s0 : Nat} (h : zKeM σ0 σ) : zpc (fX12_sayZero_255 σ x3 x4 s0) (fun r => zKeM σ0 (r)) := by
  unfold fX12_sayZero_255
  exact zpc_bu (w_fX12_say h) (fun σ18 hσ18 => w_fX12_sayZero_269 hσ18)
theorem w_fX12_sayZero_236 {σ0 : zSt} {σ : zSt} {x3 : Int32} {x4 : Int32} (h : zKeM σ0 σ) : zpc (fX12_sayZero_236 σ x3 x4) (fun r => zKeM σ0 (r)) := by
  unfold fX12_sayZero_236
  exact zpc_if (fun _ => zpc_bi (w_fX12_takenWord h) (fun σ19 v20 hσ19 => zpc_bu (w_fX12_sayPlaced hσ19) (fun σ21 hσ21 => w_fX12_sayZero_269 hσ21))) (fun _ => zpc_if (fun _ => w_fX12_sayZero_255 h) (fun _ => w_fX12_sayZero_255 h))
theorem w_fX12_sayZero_229 {σ0 : zSt} {σ : zSt} {x3 : Int32} {x4 : Int32} (h : zKeM σ0 σ) : zpc (fX12_sayZero_229 σ x3 x4) (fun r => zKeM σ0 (r)) := by
  unfold fX12_sayZero_229
  exact zpc_bu (w_fX12_say h) (fun σ22 hσ22 => w_fX12_sayZero_236 hσ22)
theorem w_fX12_sayZero_16 {σ0 : zSt} {σ : zSt} {x1 : Int32} {x2 : Int32} {x3 : Int32} {s0 : Int32} (h : zKeM σ0 σ) : zpc (fX12_sayZero_16 σ x1 x2 x3 s0) (fun r => zKeM σ0 (r)) := by
  unfold fX12_sayZero_16
  exact zpc_if (fun _ => zpc_if (fun _ => w_fX12_sayZero_58 h) (fun _ => zpc_if (fun _ => w_fX12_sayZero_58 h) (fun _ => zpc_if (fun _ => w_fX12_sayZero_58 h) (fun _ => w_fX12_sayZero_58 h)))) (fun _ => zpc_if (fun _ => zpc_if (fun _ => w_fX12_sayZero_112 h) (fun _ => w_fX12_sayZero_112 h)) (fun _ => zpc_if (fun _ => zpc_if (fun _ => w_fX12_sayZero_186 h) (fun _ => w_fX12_sayZero_186 h)) (fun _ => zpc_bu (w_fX12_say h) (fun σ23 hσ23 => zpc_if (fun _ => w_fX12_sayZero_236 hσ23) (fun _ => zpc_if (fun _ => zpc_bu (w_fX12_sayHl hσ23) (fun σ25 hσ25 => w_fX12_sayZero_229 hσ25)) (fun _ => zpc_bu (w_fX12_say hσ23) (fun σ24 hσ24 => w_fX12_sayZero_229 hσ24)))))))
theorem w_fX12_sayZero {σ0 : zSt} {σ : zSt} {x1 : Int32} {x2 : Int32} (h : zKeM σ0 σ) : zpc (fX12_sayZero σ x1 x2) (fun r => zKeM σ0 (r)) := by
  unfold fX12_sayZero
  exact zpc_bv (fun v26 _ => zpc_ck (zpc_if (fun _ => w_fX12_sayZero_16 h) (fun _ => w_fX12_sayZero_16 h)))
theorem w_fX12_saySingle_87 {σ0 : zSt} {σ : zSt} {s0 : Nat} (h : zKeM σ0 σ) : zpc (fX12_saySingle_87 σ s0) (fun r => zKeM σ0 (r)) := by
  unfold fX12_saySingle_87
  exact zpc_bu (w_fX12_say h) (fun σ1 hσ1 => zpc_some hσ1)
theorem w_fX12_saySingle_117 {σ0 : zSt} {σ : zSt} {x1 : Int32} {x2 : Int32} {s0 : Nat} (h : zKeM σ0 σ) : zpc (fX12_saySingle_117 σ x1 x2 s0) (fun r => zKeM σ0 (r)) := by
  unfold fX12_saySingle_117
  exact zpc_bu (w_fX12_say h) (fun σ2 hσ2 => zpc_bu (w_fX12_sayR hσ2) (fun σ3 hσ3 => zpc_if (fun _ => zpc_bu (w_fX12_say hσ3) (fun σ4 hσ4 => zpc_bi (w_fX12_taken hσ4) (fun σ5 v6 hσ5 => zpc_bu (w_fX12_hex hσ5) (fun σ7 hσ7 => zpc_some hσ7)))) (fun _ => zpc_some hσ3)))
theorem w_fX12_saySingle {σ0 : zSt} {σ : zSt} {x1 : Int32} {x2 : Int32} (h : zKeM σ0 σ) : zpc (fX12_saySingle σ x1 x2) (fun r => zKeM σ0 (r)) := by
  unfold fX12_saySingle
  exact zpc_if (fun _ => zpc_if (fun _ => w_fX12_saySingle_87 h) (fun _ => zpc_if (fun _ => w_fX12_saySingle_87 h) (fun _ => zpc_if (fun _ => w_fX12_saySingle_87 h) (fun _ => zpc_if (fun _ => w_fX12_saySingle_87 h) (fun _ => zpc_if (fun _ => w_fX12_saySingle_87 h) (fun _ => zpc_if (fun _ => w_fX12_saySingle_87 h) (fun _ => zpc_if (fun _ => w_fX12_saySingle_87 h) (fun _ => w_fX12_saySingle_87 h)))))))) (fun _ => zpc_if (fun _ => w_fX12_saySingle_117 h) (fun _ => zpc_if (fun _ => w_fX12_saySingle_117 h) (fun _ => w_fX12_saySingle_117 h)))
theorem w_fX12_sayThree_266 {σ0 : zSt} {σ : zSt} (h : zKeM σ0 σ) : zpc (fX12_sayThree_266 σ) (fun r => zKeM σ0 (r)) := by
  unfold fX12_sayThree_266
  exact zpc_some h
theorem w_fX12_sayThree_103 {σ0 : zSt} {σ : zSt} {x3 : Int32} (h : zKeM σ0 σ) : zpc (fX12_sayThree_103 σ x3) (fun r => zKeM σ0 (r)) := by
  unfold fX12_sayThree_103
  exact zpc_if (fun _ => zpc_bu (w_fX12_say h) (fun σ1 hσ1 => w_fX12_sayThree_266 hσ1)) (fun _ => w_fX12_sayThree_266 h)
theorem w_fX12_sayThree_91 {σ0 : zSt} {σ : zSt} {x3 : Int32} {s0 : Nat} (h : zKeM σ0 σ) : zpc (fX12_sayThree_91 σ x3 s0) (fun r => zKeM σ0 (r)) := by
  unfold fX12_sayThree_91
  exact zpc_bu (w_fX12_say h) (fun σ2 hσ2 => zpc_if (fun _ => w_fX12_sayThree_103 hσ2) (fun _ => zpc_bu (w_fX12_sayHl hσ2) (fun σ3 hσ3 => w_fX12_sayThree_103 hσ3)))
theorem w_fX12_sayThree_151 {σ0 : zSt} {σ : zSt} (h : zKeM σ0 σ) : zpc (fX12_sayThree_151 σ) (fun r => zKeM σ0 (r)) := by
  unfold fX12_sayThree_151
  exact zpc_bi (w_fX12_takenWord h) (fun σ4 v5 hσ4 => zpc_bu (w_fX12_hex hσ4) (fun σ6 hσ6 => w_fX12_sayThree_266 hσ6))
theorem w_fX12_sayThree_127 {σ0 : zSt} {σ : zSt} {x1 : Int32} {x2 : Int32} (h : zKeM σ0 σ) : zpc (fX12_sayThree_127 σ x1 x2) (fun r => zKeM σ0 (r)) := by
  unfold fX12_sayThree_127
  exact zpc_bu (w_fX12_say h) (fun σ7 hσ7 => zpc_if (fun _ => zpc_bu (w_fX12_sayCc hσ7) (fun σ8 hσ8 => zpc_bu (w_fX12_say hσ8) (fun σ9 hσ9 => w_fX12_sayThree_151 hσ9))) (fun _ => w_fX12_sayThree_151 hσ7))
theorem w_fX12_sayThree_210 {σ0 : zSt} {σ : zSt} {s0 : Nat} (h : zKeM σ0 σ) : zpc (fX12_sayThree_210 σ s0) (fun r => zKeM σ0 (r)) := by
  unfold fX12_sayThree_210
  exact zpc_bu (w_fX12_say h) (fun σ10 hσ10 => w_fX12_sayThree_266 hσ10)
theorem w_fX12_sayThree_183 {σ0 : zSt} {σ : zSt} {x1 : Int32} {s0 : Nat} (h : zKeM σ0 σ) : zpc (fX12_sayThree_183 σ x1 s0) (fun r => zKeM σ0 (r)) := by
  unfold fX12_sayThree_183
  exact zpc_bu (w_fX12_say h) (fun σ11 hσ11 => zpc_bi (w_fX12_taken hσ11) (fun σ12 v13 hσ12 => zpc_bu (w_fX12_hex hσ12) (fun σ14 hσ14 => zpc_if (fun _ => w_fX12_sayThree_210 hσ14) (fun _ => w_fX12_sayThree_210 hσ14))))
theorem w_fX12_sayThree_254 {σ0 : zSt} {σ : zSt} {x1 : Int32} {s0 : Nat} (h : zKeM σ0 σ) : zpc (fX12_sayThree_254 σ x1 s0) (fun r => zKeM σ0 (r)) := by
  unfold fX12_sayThree_254
  exact zpc_bu (w_fX12_say h) (fun σ15 hσ15 => zpc_if (fun _ => zpc_bu (w_fX12_sayHl hσ15) (fun σ16 hσ16 => w_fX12_sayThree_266 hσ16)) (fun _ => w_fX12_sayThree_266 hσ15))
theorem w_fX12_sayThree_50 {σ0 : zSt} {σ : zSt} {x1 : Int32} {x2 : Int32} {x3 : Int32} (h : zKeM σ0 σ) : zpc (fX12_sayThree_50 σ x1 x2 x3) (fun r => zKeM σ0 (r)) := by
  unfold fX12_sayThree_50
  exact zpc_if (fun _ => zpc_if (fun _ => w_fX12_sayThree_91 h) (fun _ => zpc_if (fun _ => w_fX12_sayThree_91 h) (fun _ => zpc_if (fun _ => w_fX12_sayThree_91 h) (fun _ => w_fX12_sayThree_91 h)))) (fun _ => zpc_if (fun _ => w_fX12_sayThree_127 h) (fun _ => zpc_if (fun _ => w_fX12_sayThree_127 h) (fun _ => zpc_if (fun _ => zpc_if (fun _ => w_fX12_sayThree_254 h) (fun _ => zpc_if (fun _ => w_fX12_sayThree_254 h) (fun _ => zpc_if (fun _ => w_fX12_sayThree_254 h) (fun _ => w_fX12_sayThree_254 h)))) (fun _ => zpc_if (fun _ => w_fX12_sayThree_183 h) (fun _ => w_fX12_sayThree_183 h)))))
theorem w_fX12_sayThree {σ0 : zSt} {σ : zSt} {x1 : Int32} {x2 : Int32} (h : zKeM σ0 σ) : zpc (fX12_sayThree σ x1 x2) (fun r => zKeM σ0 (r)) := by
  unfold fX12_sayThree
  exact zpc_bv (fun v17 _ => zpc_if (fun _ => zpc_bu (w_fX12_say h) (fun σ20 hσ20 => zpc_bu (w_fX12_sayCc hσ20) (fun σ21 hσ21 => w_fX12_sayThree_266 hσ21))) (fun _ => zpc_if (fun _ => zpc_ck (zpc_if (fun _ => zpc_bu (w_fX12_say h) (fun σ18 hσ18 => zpc_bu (w_fX12_sayRp hσ18) (fun σ19 hσ19 => w_fX12_sayThree_266 hσ19))) (fun _ => w_fX12_sayThree_50 h))) (fun _ => w_fX12_sayThree_50 h)))
theorem w_fX12_sayLast_115 {σ0 : zSt} {σ : zSt} (h : zKeM σ0 σ) : zpc (fX12_sayLast_115 σ) (fun r => zKeM σ0 (r)) := by
  unfold fX12_sayLast_115
  exact zpc_some h
theorem w_fX12_sayLast_43 {σ0 : zSt} {σ : zSt} (h : zKeM σ0 σ) : zpc (fX12_sayLast_43 σ) (fun r => zKeM σ0 (r)) := by
  unfold fX12_sayLast_43
  exact zpc_bi (w_fX12_takenWord h) (fun σ1 v2 hσ1 => zpc_bu (w_fX12_hex hσ1) (fun σ3 hσ3 => w_fX12_sayLast_115 hσ3))
theorem w_fX12_sayLast_19 {σ0 : zSt} {σ : zSt} {x1 : Int32} {x2 : Int32} (h : zKeM σ0 σ) : zpc (fX12_sayLast_19 σ x1 x2) (fun r => zKeM σ0 (r)) := by
  unfold fX12_sayLast_19
  exact zpc_bu (w_fX12_say h) (fun σ4 hσ4 => zpc_if (fun _ => zpc_bu (w_fX12_sayCc hσ4) (fun σ5 hσ5 => zpc_bu (w_fX12_say hσ5) (fun σ6 hσ6 => w_fX12_sayLast_43 hσ6))) (fun _ => w_fX12_sayLast_43 hσ4))
theorem w_fX12_sayLast_55 {σ0 : zSt} {σ : zSt} {x1 : Int32} {x2 : Int32} {x3 : Int32} (h : zKeM σ0 σ) : zpc (fX12_sayLast_55 σ x1 x2 x3) (fun r => zKeM σ0 (r)) := by
  unfold fX12_sayLast_55
  exact zpc_if (fun _ => zpc_bu (w_fX12_say h) (fun σ13 hσ13 => zpc_bu (w_fX12_sayRp hσ13) (fun σ14 hσ14 => w_fX12_sayLast_115 hσ14))) (fun _ => zpc_if (fun _ => zpc_bu (w_fX12_sayDo h) (fun σ9 hσ9 => zpc_bi (w_fX12_taken hσ9) (fun σ10 v11 hσ10 => zpc_bu (w_fX12_hex hσ10) (fun σ12 hσ12 => w_fX12_sayLast_115 hσ12)))) (fun _ => zpc_bu (w_fX12_say h) (fun σ7 hσ7 => zpc_bu (w_fX12_hex hσ7) (fun σ8 hσ8 => w_fX12_sayLast_115 hσ8))))
theorem w_fX12_sayLast {σ0 : zSt} {σ : zSt} {x1 : Int32} {x2 : Int32} (h : zKeM σ0 σ) : zpc (fX12_sayLast σ x1 x2) (fun r => zKeM σ0 (r)) := by
  unfold fX12_sayLast
  exact zpc_bv (fun v15 _ => zpc_if (fun _ => w_fX12_sayLast_19 h) (fun _ => zpc_if (fun _ => zpc_if (fun _ => w_fX12_sayLast_19 h) (fun _ => w_fX12_sayLast_55 h)) (fun _ => w_fX12_sayLast_55 h)))
theorem w_fX12_sayPlain_137 {σ0 : zSt} {σ : zSt} (h : zKeM σ0 σ) : zpc (fX12_sayPlain_137 σ) (fun r => zKeM σ0 (r)) := by
  unfold fX12_sayPlain_137
  exact zpc_some h
theorem w_fX12_sayPlain_32 {σ0 : zSt} {σ : zSt} {x1 : Int32} {x2 : Int32} {x3 : Int32} (h : zKeM σ0 σ) : zpc (fX12_sayPlain_32 σ x1 x2 x3) (fun r => zKeM σ0 (r)) := by
  unfold fX12_sayPlain_32
  exact zpc_if (fun _ => zpc_if (fun _ => zpc_bu (w_fX12_say h) (fun σ9 hσ9 => w_fX12_sayPlain_137 hσ9)) (fun _ => zpc_if (fun _ => zpc_if (fun _ => zpc_if (fun _ => zpc_bu (w_fX12_sayLast h) (fun σ1 hσ1 => w_fX12_sayPlain_137 hσ1)) (fun _ => zpc_bu (w_fX12_sayThree h) (fun σ2 hσ2 => w_fX12_sayPlain_137 hσ2))) (fun _ => zpc_bu (w_fX12_sayDo h) (fun σ3 hσ3 => zpc_bu (w_fX12_sayR hσ3) (fun σ4 hσ4 => w_fX12_sayPlain_137 hσ4)))) (fun _ => zpc_bu (w_fX12_say h) (fun σ5 hσ5 => zpc_bu (w_fX12_sayR hσ5) (fun σ6 hσ6 => zpc_bu (w_fX12_say hσ6) (fun σ7 hσ7 => zpc_bu (w_fX12_sayR hσ7) (fun σ8 hσ8 => w_fX12_sayPlain_137 hσ8))))))) (fun _ => zpc_bu (w_fX12_saySingle h) (fun σ10 hσ10 => w_fX12_sayPlain_137 hσ10))
theorem w_fX12_sayPlain {σ0 : zSt} {σ : zSt} {x1 : Int32} (h : zKeM σ0 σ) : zpc (fX12_sayPlain σ x1) (fun r => zKeM σ0 (r)) := by
  unfold fX12_sayPlain
  exact zpc_bv (fun v11 _ => zpc_bv (fun v12 _ => zpc_if (fun _ => w_fX12_sayPlain_32 h) (fun _ => zpc_if (fun _ => w_fX12_sayPlain_32 h) (fun _ => zpc_bu (w_fX12_sayZero h) (fun σ13 hσ13 => w_fX12_sayPlain_137 hσ13)))))
theorem w_fX12_sayPrefixed_30 {σ0 : zSt} {σ : zSt} (h : zKeM σ0 σ) : zpc (fX12_sayPrefixed_30 σ) (fun r => zKeM σ0 (r)) := by
  unfold fX12_sayPrefixed_30
  exact zpc_bu (w_fX12_say h) (fun σ1 hσ1 => zpc_some hσ1)
theorem w_fX12_sayPrefixed_133 {σ0 : zSt} {σ : zSt} (h : zKeM σ0 σ) : zpc (fX12_sayPrefixed_133 σ) (fun r => zKeM σ0 (r)) := by
  unfold fX12_sayPrefixed_133
  exact zpc_some h
theorem w_fX12_sayPrefixed_240 {σ0 : zSt} {σ : zSt} {x2 : Int32} (h : zKeM σ0 σ) : zpc (fX12_sayPrefixed_240 σ x2) (fun r => zKeM σ0 (r)) := by
  unfold fX12_sayPrefixed_240
  exact zpc_bu (w_fX12_sayPlain h) (fun σ2 hσ2 => zpc_some hσ2)
theorem w_fX12_sayPrefixed_219 {σ0 : zSt} {σ : zSt} {x2 : Int32} {s0 : Int32} (h : zKeM σ0 σ) : zpc (fX12_sayPrefixed_219 σ x2 s0) (fun r => zKeM σ0 (r)) := by
  unfold fX12_sayPrefixed_219
  exact zpc_ck (zpc_bs (zKeM.w0 h (by decide)) (fun σ3 hσ3 => zpc_if (fun _ => w_fX12_sayPrefixed_240 hσ3) (fun _ => zpc_bi (w_fX12_taken hσ3) (fun σ4 v5 hσ4 => zpc_bi (w_fX12_signed hσ4) (fun σ6 v7 hσ6 => zpc_bs (zKeM.w0 hσ6 (by decide)) (fun σ8 hσ8 => w_fX12_sayPrefixed_240 hσ8))))))
theorem w_fX12_sayPrefixed_218 {σ0 : zSt} {σ : zSt} {x2 : Int32} (h : zKeM σ0 σ) : zpc (fX12_sayPrefixed_218 σ x2) (fun r => zKeM σ0 (r)) := by
  unfold fX12_sayPrefixed_218
  exact w_fX12_sayPrefixed_219 h
theorem w_fX12_sayPrefixed_214 {σ0 : zSt} {σ : zSt} {x2 : Int32} (h : zKeM σ0 σ) : zpc (fX12_sayPrefixed_214 σ x2) (fun r => zKeM σ0 (r)) := by
  unfold fX12_sayPrefixed_214
  exact w_fX12_sayPrefixed_219 h
theorem w_fX12_sayPrefixed_201 {σ0 : zSt} {σ : zSt} {x2 : Int32} {x4 : Int32} {x5 : Int32} (h : zKeM σ0 σ) : zpc (fX12_sayPrefixed_201 σ x2 x4 x5) (fun r => zKeM σ0 (r)) := by
  unfold fX12_sayPrefixed_201
  exact zpc_if (fun _ => zpc_if (fun _ => w_fX12_sayPrefixed_214 h) (fun _ => w_fX12_sayPrefixed_218 h)) (fun _ => w_fX12_sayPrefixed_218 h)
theorem w_fX12_sayPrefixed_195 {σ0 : zSt} {σ : zSt} {x2 : Int32} {x4 : Int32} {x5 : Int32} (h : zKeM σ0 σ) : zpc (fX12_sayPrefixed_195 σ x2 x4 x5) (fun r => zKeM σ0 (r)) := by
  unfold fX12_sayPrefixed_195
  exact zpc_if (fun _ => w_fX12_sayPrefixed_201 h) (fun _ => w_fX12_sayPrefixed_214 h)
theorem w_fX12_sayPrefixed_176 {σ0 : zSt} {σ : zSt} {x2 : Int32} {x3 : Int32} {x4 : Int32} {x5 : Int32} (h : zKeM σ0 σ) : zpc (fX12_sayPrefixed_176 σ x2 x3 x4 x5) (fun r => zKeM σ0 (r)) := by
  unfold fX12_sayPrefixed_176
  exact zpc_if (fun _ => zpc_if (fun _ => w_fX12_sayPrefixed_195 h) (fun _ => zpc_if (fun _ => w_fX12_sayPrefixed_195 h) (fun _ => w_fX12_sayPrefixed_201 h))) (fun _ => w_fX12_sayPrefixed_201 h)
theorem w_fX12_sayPrefixed {σ0 : zSt} {σ : zSt} {x1 : Int32} (h : zKeM σ0 σ) : zpc (fX12_sayPrefixed σ x1) (fun r => zKeM σ0 (r)) := by
  unfold fX12_sayPrefixed
  exact zpc_bi (w_fX12_read h) (fun σ9 v10 hσ9 => zpc_if (fun _ => w_fX12_sayPrefixed_30 hσ9) (fun _ => zpc_if (fun _ => w_fX12_sayPrefixed_30 hσ9) (fun _ => zpc_if (fun _ => w_fX12_sayPrefixed_30 hσ9) (fun _ => zpc_bs (zKeM.w0 hσ9 (by decide)) (fun σ11 hσ11 => zpc_bs (zKeM.w0 hσ11 (by decide)) (fun σ12 hσ12 => zpc_bv (fun v13 _ => zpc_bv (fun v14 _ => zpc_bv (fun v15 _ => zpc_if (fun _ => zpc_bi (w_fX12_taken hσ12) (fun σ16 v17 hσ16 => zpc_bi (w_fX12_signed hσ16) (fun σ18 v19 hσ18 => zpc_bs (zKeM.w0 hσ18 (by decide)) (fun σ20 hσ20 => zpc_ck (zpc_bs (zKeM.w0 hσ20 (by decide)) (fun σ21 hσ21 => zpc_bi (w_fX12_taken hσ21) (fun σ22 v23 hσ22 => zpc_bu (w_fX12_sayTurn hσ22) (fun σ24 hσ24 => zpc_if (fun _ => w_fX12_sayPrefixed_133 hσ24) (fun _ => zpc_ck (zpc_if (fun _ => w_fX12_sayPrefixed_133 hσ24) (fun _ => zpc_bu (w_fX12_say hσ24) (fun σ25 hσ25 => zpc_ck (zpc_bu (w_fX12_sayR hσ25) (fun σ26 hσ26 => zpc_some hσ26)))))))))))))) (fun _ => zpc_if (fun _ => zpc_if (fun _ => w_fX12_sayPrefixed_176 hσ12) (fun _ => zpc_if (fun _ => w_fX12_sayPrefixed_176 hσ12) (fun _ => zpc_if (fun _ => w_fX12_sayPrefixed_214 hσ12) (fun _ => w_fX12_sayPrefixed_176 hσ12)))) (fun _ => w_fX12_sayPrefixed_176 hσ12)))))))))))
theorem w_fX12_sayOdd_155 {σ0 : zSt} {σ : zSt} (h : zKeM σ0 σ) : zpc (fX12_sayOdd_155 σ) (fun r => zKeM σ0 (r)) := by
  unfold fX12_sayOdd_155
  exact zpc_some h
theorem w_fX12_sayOdd_35 {σ0 : zSt} {σ : zSt} {s0 : Nat} (h : zKeM σ0 σ) : zpc (fX12_sayOdd_35 σ s0) (fun r => zKeM σ0 (r)) := by
  unfold fX12_sayOdd_35
  exact zpc_bu (w_fX12_say h) (fun σ1 hσ1 => w_fX12_sayOdd_155 hσ1)
theorem w_fX12_sayOdd_77 {σ0 : zSt} {σ : zSt} {s0 : Nat} (h : zKeM σ0 σ) : zpc (fX12_sayOdd_77 σ s0) (fun r => zKeM σ0 (r)) := by
  unfold fX12_sayOdd_77
  exact zpc_bu (w_fX12_say h) (fun σ2 hσ2 => w_fX12_sayOdd_155 hσ2)
theorem w_fX12_sayOdd_152 {σ0 : zSt} {σ : zSt} {s0 : Nat} (h : zKeM σ0 σ) : zpc (fX12_sayOdd_152 σ s0) (fun r => zKeM σ0 (r)) := by
  unfold fX12_sayOdd_152
  exact zpc_bu (w_fX12_say h) (fun σ3 hσ3 => w_fX12_sayOdd_155 hσ3)
theorem w_fX12_sayOdd {σ0 : zSt} {σ : zSt} {x1 : Int32} {x2 : Int32} (h : zKeM σ0 σ) : zpc (fX12_sayOdd σ x1 x2) (fun r => zKeM σ0 (r)) := by
  unfold fX12_sayOdd
  exact zpc_if (fun _ => zpc_bu (w_fX12_say h) (fun σ4 hσ4 => w_fX12_sayOdd_155 hσ4)) (fun _ => zpc_if (fun _ => zpc_if (fun _ => w_fX12_sayOdd_35 h) (fun _ => w_fX12_sayOdd_35 h)) (fun _ => zpc_if (fun _ => zpc_ck (zpc_if (fun _ => zpc_ck (zpc_if (fun _ => w_fX12_sayOdd_77 h) (fun _ => w_fX12_sayOdd_77 h))) (fun _ => w_fX12_sayOdd_77 h))) (fun _ => zpc_if (fun _ => w_fX12_sayOdd_152 h) (fun _ => zpc_if (fun _ => w_fX12_sayOdd_152 h) (fun _ => zpc_if (fun _ => w_fX12_sayOdd_152 h) (fun _ => zpc_if (fun _ => w_fX12_sayOdd_152 h) (fun _ => zpc_if (fun _ => w_fX12_sayOdd_152 h) (fun _ => zpc_if (fun _ => w_fX12_sayOdd_152 h) (fun _ => w_fX12_sayOdd_152 h)))))))))
theorem w_fX12_sayMore_325 {σ0 : zSt} {σ : zSt} (h : zKeM σ0 σ) : zpc (fX12_sayMore_325 σ) (fun r => zKeM σ0 (r)) := by
  unfold fX12_sayMore_325
  exact zpc_some h
theorem w_fX12_sayMore_164 {σ0 : zSt} {σ : zSt} (h : zKeM σ0 σ) : zpc (fX12_sayMore_164 σ) (fun r => zKeM σ0 (r)) := by
  unfold fX12_sayMore_164
  exact zpc_bu (w_fX12_say h) (fun σ1 hσ1 => w_fX12_sayMore_325 hσ1)
theorem w_fX12_sayMore_231 {σ0 : zSt} {σ : zSt} {x2 : Int32} {s0 : Nat} (h : zKeM σ0 σ) : zpc (fX12_sayMore_231 σ x2 s0) (fun r => zKeM σ0 (r)) := by
  unfold fX12_sayMore_231
  exact zpc_bu (w_fX12_say h) (fun σ2 hσ2 => zpc_bu (w_fX12_sayRp hσ2) (fun σ3 hσ3 => w_fX12_sayMore_325 hσ3))
theorem w_fX12_sayMore_316 {σ0 : zSt} {σ : zSt} (h : zKeM σ0 σ) : zpc (fX12_sayMore_316 σ) (fun r => zKeM σ0 (r)) := by
  unfold fX12_sayMore_316
  exact w_fX12_sayMore_325 h
theorem w_fX12_sayMore_286 {σ0 : zSt} {σ : zSt} {x2 : Int32} {x5 : Int32} (h : zKeM σ0 σ) : zpc (fX12_sayMore_286 σ x2 x5) (fun r => zKeM σ0 (r)) := by
  unfold fX12_sayMore_286
  exact zpc_bu (w_fX12_say h) (fun σ4 hσ4 => zpc_ck (zpc_if (fun _ => zpc_bu (w_fX12_sayRp hσ4) (fun σ6 hσ6 => w_fX12_sayMore_316 hσ6)) (fun _ => zpc_bu (w_fX12_sayPlaced hσ4) (fun σ5 hσ5 => w_fX12_sayMore_316 hσ5))))
theorem w_fX12_sayMore_119 {σ0 : zSt} {σ : zSt} {x2 : Int32} {x3 : Int32} {x4 : Int32} (h : zKeM σ0 σ) : zpc (fX12_sayMore_119 σ x2 x3 x4) (fun r => zKeM σ0 (r)) := by
  unfold fX12_sayMore_119
  exact zpc_if (fun _ => zpc_if (fun _ => zpc_bu (w_fX12_say h) (fun σ16 hσ16 => zpc_if (fun _ => w_fX12_sayMore_164 hσ16) (fun _ => zpc_bu (w_fX12_sayR hσ16) (fun σ17 hσ17 => zpc_bu (w_fX12_say hσ17) (fun σ18 hσ18 => w_fX12_sayMore_164 hσ18))))) (fun _ => zpc_if (fun _ => zpc_bu (w_fX12_say h) (fun σ13 hσ13 => zpc_if (fun _ => zpc_bu (w_fX12_say hσ13) (fun σ15 hσ15 => w_fX12_sayMore_325 hσ15)) (fun _ => zpc_bu (w_fX12_sayR hσ13) (fun σ14 hσ14 => w_fX12_sayMore_325 hσ14)))) (fun _ => zpc_if (fun _ => zpc_ck (zpc_if (fun _ => w_fX12_sayMore_231 h) (fun _ => w_fX12_sayMore_231 h))) (fun _ => zpc_if (fun _ => zpc_bu (w_fX12_say h) (fun σ8 hσ8 => zpc_bi (w_fX12_takenWord hσ8) (fun σ9 v10 hσ9 => zpc_ck (zpc_if (fun _ => zpc_bu (w_fX12_sayPlaced hσ9) (fun σ12 hσ12 => w_fX12_sayMore_286 hσ12)) (fun _ => zpc_bu (w_fX12_sayRp hσ9) (fun σ11 hσ11 => w_fX12_sayMore_286 hσ11)))))) (fun _ => zpc_bu (w_fX12_sayOdd h) (fun σ7 hσ7 => w_fX12_sayMore_325 hσ7)))))) (fun _ => zpc_bu (w_fX12_say h) (fun σ19 hσ19 => w_fX12_sayMore_325 hσ19))
theorem w_fX12_sayMore_101 {σ0 : zSt} {σ : zSt} {x2 : Int32} {s0 : Nat} (h : zKeM σ0 σ) : zpc (fX12_sayMore_101 σ x2 s0) (fun r => zKeM σ0 (r)) := by
  unfold fX12_sayMore_101
  exact zpc_bu (w_fX12_say h) (fun σ20 hσ20 => zpc_if (fun _ => w_fX12_sayMore_325 hσ20) (fun _ => zpc_bu (w_fX12_say hσ20) (fun σ21 hσ21 => w_fX12_sayMore_325 hσ21)))
theorem w_fX12_sayMore_82 {σ0 : zSt} {σ : zSt} {x2 : Int32} {s0 : Nat} (h : zKeM σ0 σ) : zpc (fX12_sayMore_82 σ x2 s0) (fun r => zKeM σ0 (r)) := by
  unfold fX12_sayMore_82
  exact zpc_bu (w_fX12_say h) (fun σ22 hσ22 => zpc_ck (zpc_if (fun _ => w_fX12_sayMore_101 hσ22) (fun _ => w_fX12_sayMore_101 hσ22)))
theorem w_fX12_sayMore {σ0 : zSt} {σ : zSt} {x1 : Int32} (h : zKeM σ0 σ) : zpc (fX12_sayMore σ x1) (fun r => zKeM σ0 (r)) := by
  unfold fX12_sayMore
  exact zpc_bv (fun v23 _ => zpc_bv (fun v24 _ => zpc_bv (fun v25 _ => zpc_if (fun _ => zpc_if (fun _ => w_fX12_sayMore_119 h) (fun _ => zpc_if (fun _ => w_fX12_sayMore_119 h) (fun _ => zpc_if (fun _ => w_fX12_sayMore_82 h) (fun _ => zpc_if (fun _ => w_fX12_sayMore_82 h) (fun _ => zpc_if (fun _ => w_fX12_sayMore_82 h) (fun _ => zpc_if (fun _ => w_fX12_sayMore_82 h) (fun _ => w_fX12_sayMore_82 h))))))) (fun _ => w_fX12_sayMore_119 h))))
theorem w_fX12_tell_112 {σ0 : zSt} {σ : zSt} {x2 : Int32} (h : zKeM σ0 σ) : zpc (fX12_tell_112 σ x2) (fun r => zKeM σ0 (r.1)) := by
  unfold fX12_tell_112
  exact zpc_some h
theorem w_fX12_tell_65 {σ0 : zSt} {σ : zSt} {x2 : Int32} {s0 : Int32} (h : zKeM σ0 σ) : zpc (fX12_tell_65 σ x2 s0) (fun r => zKeM σ0 (r.1)) := by
  unfold fX12_tell_65
  exact zpc_bu (w_fX12_sayPrefixed h) (fun σ1 hσ1 => w_fX12_tell_112 hσ1)
theorem w_fX12_tell_52 {σ0 : zSt} {σ : zSt} {x2 : Int32} {x3 : Int32} (h : zKeM σ0 σ) : zpc (fX12_tell_52 σ x2 x3) (fun r => zKeM σ0 (r.1)) := by
  unfold fX12_tell_52
  exact zpc_if (fun _ => w_fX12_tell_65 h) (fun _ => w_fX12_tell_65 h)
theorem w_fX12_tell {σ0 : zSt} {σ : zSt} {x1 : Int32} (h : zKeM σ0 σ) : zpc (fX12_tell σ x1) (fun r => zKeM σ0 (r.1)) := by
  unfold fX12_tell
  exact zpc_bs (zKeM.w0 h (by decide)) (fun σ2 hσ2 => zpc_bs (zKeM.w0 hσ2 (by decide)) (fun σ3 hσ3 => zpc_bs (zKeM.w0 hσ3 (by decide)) (fun σ4 hσ4 => zpc_bs (zKeM.w0 hσ4 (by decide)) (fun σ5 hσ5 => zpc_ck (zpc_bs (zKeM.w0 hσ5 (by decide)) (fun σ6 hσ6 => zpc_bv (fun v7 _ => zpc_bi (w_fX12_taken hσ6) (fun σ8 v9 hσ8 => zpc_if (fun _ => w_fX12_tell_52 hσ8) (fun _ => zpc_if (fun _ => w_fX12_tell_52 hσ8) (fun _ => zpc_if (fun _ => zpc_bi (w_fX12_taken hσ8) (fun σ14 v15 hσ14 => zpc_bu (w_fX12_sayTurn hσ14) (fun σ16 hσ16 => w_fX12_tell_112 hσ16))) (fun _ => zpc_if (fun _ => zpc_bi (w_fX12_taken hσ8) (fun σ11 v12 hσ11 => zpc_bu (w_fX12_sayMore hσ11) (fun σ13 hσ13 => w_fX12_tell_112 hσ13))) (fun _ => zpc_bu (w_fX12_sayPlain hσ8) (fun σ10 hσ10 => w_fX12_tell_112 hσ10)))))))))))))
theorem w_fX12_text_70 {σ0 : zSt} {k37 : zSt → Int32 → Int64 → Int32 → Option (zSt × Int64)} (hk37 : ∀ (y0 : zSt) (y1 : Int32) (y2 : Int64) (y3 : Int32), zKeM σ0 y0 → zpc (k37 y0 y1 y2 y3) (fun r => zKeM σ0 (r.1))) {σ : zSt} {x1 : Int32} {x4 : Int32} {s0 : Int32} {s1 : Int64} (h : zKeM σ0 σ) : zpc (fX12_text_70 k37 σ x1 x4 s0 s1) (fun r => zKeM σ0 (r.1)) := by
  unfold fX12_text_70
  exact zpc_bv (fun v1 _ => zpc_bv (fun v2 _ => hk37 _ _ _ _ h))
theorem w_fX12_text_37_body {σ0 : zSt} {k37 : zSt → Int32 → Int64 → Int32 → Option (zSt × Int64)} (hk37 : ∀ (y0 : zSt) (y1 : Int32) (y2 : Int64) (y3 : Int32), zKeM σ0 y0 → zpc (k37 y0 y1 y2 y3) (fun r => zKeM σ0 (r.1))) {σ : zSt} {x1 : Int32} {x2 : Int64} {x4 : Int32} (h : zKeM σ0 σ) : zpc (fX12_text_37_body k37 σ x1 x2 x4) (fun r => zKeM σ0 (r.1)) := by
  unfold fX12_text_37_body
  exact zpc_if (fun _ => zpc_some h) (fun _ => zpc_if (fun _ => w_fX12_text_70 hk37 h) (fun _ => zpc_ck (w_fX12_text_70 hk37 h)))
theorem w_fX12_text_37 {σ0 : zSt} : ∀ (n : Nat) (y0 : zSt) (y1 : Int32) (y2 : Int64) (y3 : Int32), zKeM σ0 y0 → zpc (fX12_text_37 n y0 y1 y2 y3) (fun r => zKeM σ0 (r.1)) := by
  intro n
  induction n with
  | zero => intro y0 y1 y2 y3 h; exact zpc_none
  | succ n ih => intro y0 y1 y2 y3 h; exact w_fX12_text_37_body ih h
theorem w_fX12_text_22 {σ0 : zSt} {σ : zSt} {x1 : Int32} {s0 : Int32} (h : zKeM σ0 σ) : zpc (fX12_text_22 σ x1 s0) (fun r => zKeM σ0 (r.1)) := by
  unfold fX12_text_22
  exact zpc_bi (w_fX12_fails h) (fun σ3 v4 hσ3 => zpc_if (fun _ => w_fX12_text_37 _ _ _ _ _ hσ3) (fun _ => zpc_some hσ3))
theorem w_fX12_text {σ0 : zSt} {σ : zSt} {x1 : Int32} (h : zKeM σ0 σ) : zpc (fX12_text σ x1) (fun r => zKeM σ0 (r.1)) := by
  unfold fX12_text
  exact zpc_bi (w_fX12_within h) (fun σ5 v6 hσ5 => zpc_if (fun _ => w_fX12_text_22 hσ5) (fun _ => w_fX12_text_22 hσ5))
end ZJN2
section ZJN3
/-! bytes -/
theorem z_255 {i : Nat} (h : 8 ≤ i) : (255#32).getLsbD i = false := by
  by_cases hi : i < 32
  · have k : ∀ j : Fin 32, 8 ≤ j.val → (255#32).getLsbD j.val = false := by decide
    exact k ⟨i, hi⟩ h
  · exact BitVec.getLsbD_of_ge _ _ (by omega)
theorem z_and255 {x y : Int32} (h : ∀ i, i < 8 → x.toBitVec.getLsbD i = y.toBitVec.getLsbD i) : x &&& 255 = y &&& 255 := by
  refine Int32.toBitVec_inj.1 (BitVec.eq_of_getLsbD_eq (fun i hi => ?_))
  rw [Int32.toBitVec_and, Int32.toBitVec_and, BitVec.getLsbD_and, BitVec.getLsbD_and]
  by_cases q : i < 8
  · rw [h i q]
  · rw [show (255 : Int32).toBitVec = 255#32 from rfl, z_255 (by omega), Bool.and_false, Bool.and_false]
theorem z_nar {x : Int32} : vp_nar .byte x &&& 255 = x &&& 255 := by
  refine z_and255 (fun i hi => ?_)
  have e : (vp_nar .byte x).toBitVec = (x.toBitVec.signExtend 8).signExtend 32 := rfl
  rw [e, BitVec.getLsbD_signExtend, if_pos hi, decide_eq_true (show i < 32 by omega), Bool.true_and, BitVec.getLsbD_signExtend, if_pos (show i < 32 by omega), decide_eq_true hi, Bool.true_and]
theorem z_i8 {x : Int32} : x.toInt8.toInt32 &&& 255 = x &&& 255 := z_nar (x := x)
theorem z_sh1 : ∀ i : Fin 8, (((8 * Int32.ofNat i.val).toInt64 &&& 63).toBitVec.smod 64).toNat = 8 * i.val := by decide +kernel
theorem z_sh2 : ∀ i : Fin 8, (UInt64.mod ((8 * Int32.ofNat i.val).toInt64.toUInt64 &&& Int64.toUInt64 63) 64).toBitVec.toNat = 8 * i.val := by decide +kernel
theorem z_shb {s : Int64} {i : Nat} (hi : i < 8) : (zlshr s (8 * Int32.ofNat i)).toInt32 &&& 255 = (zlushr s (8 * Int32.ofNat i)).toInt32 &&& 255 := by
  refine z_and255 (fun j hj => ?_)
  have s1 : (((8 * Int32.ofNat i).toInt64 &&& 63).toBitVec.smod 64).toNat = 8 * i := z_sh1 ⟨i, hi⟩
  have s2 : (UInt64.mod ((8 * Int32.ofNat i).toInt64.toUInt64 &&& Int64.toUInt64 63) 64).toBitVec.toNat = 8 * i := z_sh2 ⟨i, hi⟩
  have e1 : (zlshr s (8 * Int32.ofNat i)).toInt32.toBitVec = (s.toBitVec.sshiftRight (((8 * Int32.ofNat i).toInt64 &&& 63).toBitVec.smod 64).toNat).signExtend 32 := rfl
  have e2 : (zlushr s (8 * Int32.ofNat i)).toInt32.toBitVec = (s.toBitVec >>> (UInt64.mod ((8 * Int32.ofNat i).toInt64.toUInt64 &&& Int64.toUInt64 63) 64).toBitVec.toNat).signExtend 32 := rfl
  rw [e1, e2, s1, s2]
  simp only [BitVec.getLsbD_signExtend, BitVec.getLsbD_sshiftRight, BitVec.getLsbD_ushiftRight, if_pos (show j < 64 by omega), if_pos (show 8 * i + j < 64 by omega), decide_eq_false (show ¬ 64 ≤ j by omega), Bool.not_false, Bool.true_and]
theorem z_x24 : ∀ i : Fin 24, zrem (Int32.ofNat i.val) 8 = Int32.ofNat (i.val % 8) ∧ Int32.ofNat i.val &&& 7 = Int32.ofNat (i.val % 8) := by decide +kernel
theorem z_ofN {x : Int32} {i : Nat} (h : x.toInt = i) : x = Int32.ofNat i := by
  have l := Int32.toInt_lt x
  exact Int32.toInt_inj.mp (by rw [Int32.toInt_ofNat_of_lt (by omega), h])
/-- the byte that feed lays, on both sides -/
theorem z_feedb {s : Int64} {x : Int32} (h : zr 0 23 x) : ((zlushr s (8 * (x &&& 7))).toInt32) &&& 255 = vp_nar .byte (((zlshr s (8 * (zrem x 8))).toInt32).toInt8.toInt32) &&& 255 := by
  obtain ⟨h1, h2⟩ := h
  obtain ⟨i, hi⟩ : ∃ i : Nat, x.toInt = i := ⟨x.toInt.toNat, by omega⟩
  have e := z_ofN hi
  have k1 : zrem (Int32.ofNat i) 8 = Int32.ofNat (i % 8) := (z_x24 ⟨i, by omega⟩).1
  have k2 : Int32.ofNat i &&& 7 = Int32.ofNat (i % 8) := (z_x24 ⟨i, by omega⟩).2
  rw [z_nar, z_i8, e, k1, k2]
  exact (z_shb (by omega)).symm
theorem z_patchb {s : Int64} {x : Int32} (h : zr 0 7 x) : ((zlushr s (8 * x)).toInt32) &&& 255 = vp_nar .byte (((zlshr s (8 * x)).toInt32).toInt8.toInt32) &&& 255 := by
  obtain ⟨h1, h2⟩ := h
  obtain ⟨i, hi⟩ : ∃ i : Nat, x.toInt = i := ⟨x.toInt.toNat, by omega⟩
  have e := z_ofN hi
  rw [z_nar, z_i8, e]
  exact (z_shb (by omega)).symm
/-! two computations side by side -/
noncomputable def zp2 {α β : Type} (o : Option α) (p : Option β) (Q : α → β → Prop) : Prop := ∀ a b, o = some a → p = some b → Q a b
theorem zp2_nl {α β : Type} {p : Option β} {Q : α → β → Prop} : zp2 (none : Option α) p Q := fun a b e _ => by cases e
theorem zp2_nr {α β : Type} {o : Option α} {Q : α → β → Prop} : zp2 o (none : Option β) Q := fun a b _ e => by cases e
theorem zp2_some {α β : Type} {a : α} {b : β} {Q : α → β → Prop} (h : Q a b) : zp2 (some a) (some b) Q := fun x y e f => by cases e; cases f; exact h
theorem zp2_ckl {α β : Type} {c : Bool} {o : Option α} {p : Option β} {Q : α → β → Prop} (h : zp2 o p Q) : zp2 (zck c o) p Q := by
  cases c
  · exact zp2_nl
  · exact h
theorem zp2_ckr {α β : Type} {c : Bool} {o : Option α} {p : Option β} {Q : α → β → Prop} (h : zp2 o p Q) : zp2 o (zck c p) Q := by
  cases c
  · exact zp2_nr
  · exact h
theorem zp2_ifl {α β : Type} {c : Prop} {d : Decidable c} {x y : Option α} {p : Option β} {Q : α → β → Prop} (h1 : c → zp2 x p Q) (h2 : ¬ c → zp2 y p Q) : zp2 (@ite _ c d x y) p Q := by
  by_cases q : c
  · rw [if_pos q]; exact h1 q
  · rw [if_neg q]; exact h2 q
theorem zp2_ifr {α β : Type} {c : Prop} {d : Decidable c} {o : Option α} {x y : Option β} {Q : α → β → Prop} (h1 : c → zp2 o x Q) (h2 : ¬ c → zp2 o y Q) : zp2 o (@ite _ c d x y) Q := by
  by_cases q : c
  · rw [if_pos q]; exact h1 q
  · rw [if_neg q]; exact h2 q
/-- both ask the same -/
theorem zp2_if {α β : Type} {c : Prop} {d d' : Decidable c} {x y : Option α} {x' y' : Option β} {Q : α → β → Prop} (h1 : c → zp2 x x' Q) (h2 : ¬ c → zp2 y y' Q) : zp2 (@ite _ c d x y) (@ite _ c d' x' y') Q := zp2_ifl (fun q => zp2_ifr (fun _ => h1 q) (fun r => absurd q r)) (fun q => zp2_ifr (fun r => absurd r q) (fun _ => h2 q))
theorem zp2_bvl {α β γ : Type} {x : γ} {f : γ → Option α} {p : Option β} {Q : α → β → Prop} (h : ∀ y, y = x → zp2 (f y) p Q) : zp2 (zbv x f) p Q := h x rfl
theorem zp2_bvr {α β γ : Type} {x : γ} {o : Option α} {f : γ → Option β} {Q : α → β → Prop} (h : ∀ y, y = x → zp2 o (f y) Q) : zp2 o (zbv x f) Q := h x rfl
theorem zp2_bul {α β : Type} {o : Option zSt} {f : zSt → Option α} {p : Option β} {P : zSt → Prop} {Q : α → β → Prop} (h : zpc o P) (k : ∀ σ, P σ → zp2 (f σ) p Q) : zp2 (zbu o f) p Q := by
  cases o with
  | none => exact zp2_nl
  | some a => exact k a (h a rfl)
theorem zp2_of {α β : Type} {o : Option α} {p : Option β} {P : α → Prop} {P' : β → Prop} {Q : α → β → Prop} (h : zpc o P) (h' : zpc p P') (k : ∀ a b, P a → P' b → Q a b) : zp2 o p Q := fun a b e f => k a b (h a e) (h' b f)
/-! tape and cartridge of both sides -/
noncomputable def zSm (b : Nat → Int32) : Nat → Nat → Int32 → Int32
  | 0, _, a => a
  | n + 1, i, a => zSm b n (i + 1) (a + b i)
/-- the sum over a cartridge's bytes: size, header, bytes -/
noncomputable def zSum (z h : Int32) (b : Nat → Int32) : Int32 := (if 13 < b (h.toNatClampNeg + 15) &&& 15 then zSm b (z.toNatClampNeg - 32768) 32768 (zSm b h.toNatClampNeg 0 0) else if 3 ≤ b (h.toNatClampNeg + 15) &&& 15 then zSm b h.toNatClampNeg 0 0 else zSm b (z.toNatClampNeg - 32768) 32768 (zSm b h.toNatClampNeg 0 0)) &&& 65535
noncomputable def zCart (σ μ : zSt) : Prop := σ.1 1 4 = μ.1 0 5 ∧ σ.1 1 5 = μ.1 0 6 ∧ σ.1 1 6 = μ.1 0 7 ∧ σ.1 1 7 = μ.1 0 8 ∧ (∀ j : Nat, (j : Int) < (μ.1 0 5).toInt → σ.1 (ztp (σ.1 1 1)) ((σ.1 1 3).toNatClampNeg + j) = μ.1 2 j &&& 255) ∧ (0 ≤ (μ.1 0 8).toInt → (μ.1 0 8).toInt + 16 ≤ (μ.1 0 5).toInt ∧ μ.1 0 9 = zSum (μ.1 0 5) (μ.1 0 8) (fun j => μ.1 2 j &&& 255))
theorem zCart.keep {σ σ' μ μ' : zSt} (h : zCart σ μ) (a : ∀ j, j ∈ [1, 3, 4, 5, 6, 7] → σ'.1 1 j = σ.1 1 j) (a2 : σ'.1 (ztp (σ.1 1 1)) = σ.1 (ztp (σ.1 1 1))) (b : ∀ j, j ∈ [5, 6, 7, 8, 9] → μ'.1 0 j = μ.1 0 j) (b2 : μ'.1 2 = μ.1 2) : zCart σ' μ' := by
  unfold zCart at h ⊢
  rw [a 1 (by decide), a 3 (by decide), a 4 (by decide), a 5 (by decide), a 6 (by decide), a 7 (by decide), a2, b 5 (by decide), b 6 (by decide), b 7 (by decide), b 8 (by decide), b 9 (by decide), b2]
  exact h
noncomputable def zR6L (L : Int) (σ μ : zSt) : Prop := (∀ j : Nat, (j : Int) < L → σ.1 (ztp (σ.1 1 0)) j = μ.1 1 j &&& 255) ∧ ¬ ztp (σ.1 1 0) = ztp (σ.1 1 1) ∧ zCart σ μ
noncomputable def zR6 (σ μ : zSt) : Prop := σ.1 1 2 = μ.1 0 2 ∧ zR6L (μ.1 0 2).toInt σ μ
theorem z_tp13 (x : Int32) : ztp x = 13 ∨ ztp x = 14 := by
  unfold ztp
  split
  · exact Or.inl rfl
  · exact Or.inr rfl
theorem zKeC.row {σ σ' : zSt} (a : zKeC σ σ') (w : Int32) : σ'.1 (ztp w) = σ.1 (ztp w) := by
  rcases z_tp13 w with e | e <;> rw [e]
  · exact a.2.1
  · exact a.2.2
theorem zR6.keep {σ σ' μ μ' : zSt} (h : zR6 σ μ) (a : zKeC σ σ') (b : zKeM μ μ') : zR6 σ' μ' := by
  obtain ⟨h1, h2, h3, h4⟩ := h
  have c : zCart σ' μ' := h4.keep (fun j _ => by rw [a.1]) (a.row _) (fun j hj => b.2.2 j (by revert hj; simp only [List.mem_cons, List.not_mem_nil, or_false]; omega)) b.2.1
  unfold zR6 zR6L
  rw [a.1, a.row, b.2.2 2 (by decide), b.1]
  exact ⟨h1, h2, h3, c⟩
/-- one byte of the tape on both sides -/
theorem zR6L.set {L L' : Int} {σ μ : zSt} (h : zR6L L σ μ) {i : Nat} {x y : Int32} (hx : x = y &&& 255) (hL : ∀ j : Nat, (j : Int) < L' → ¬ j = i → (j : Int) < L) : zR6L L' (zsi σ (ztp (σ.1 1 0)) i x) (zsi μ 1 i y) := by
  obtain ⟨h1, h2, h3⟩ := h
  have n1 : ¬ 1 = ztp (σ.1 1 0) := z_tp1 _
  have r1 : (zsi σ (ztp (σ.1 1 0)) i x).1 1 = σ.1 1 := zsi_ne n1
  refine ⟨fun j hj => ?_, by rw [r1]; exact h2, h3.keep (fun j _ => by rw [r1]) (zsi_ne (fun r => h2 r.symm)) (fun j _ => by rw [zsi_ne (by decide)]) (zsi_ne (by decide))⟩
  rw [r1]
  by_cases q : j = i
  · subst q
    rw [zsi_ej, zsi_ej]
    exact hx
  · rw [zsi_nj q, zsi_nj q]
    exact h1 j (hL j hj q)
theorem zR6L.lenC {L : Int} {σ μ : zSt} (h : zR6L L σ μ) {v : Int32} : zR6L L (zsi σ 1 2 v) μ := by
  obtain ⟨h1, h2, h3⟩ := h
  have k : ∀ j, ¬ j = 2 → (zsi σ 1 2 v).1 1 j = σ.1 1 j := fun j q => zsi_nj q
  have r : ∀ w, (zsi σ 1 2 v).1 (ztp w) = σ.1 (ztp w) := fun w => zsi_ne (fun e => z_tp1 w e.symm)
  refine ⟨fun j hj => ?_, by rw [k 0 (by decide), k 1 (by decide)]; exact h2, h3.keep (fun j hj => k j (fun e => by subst e; revert hj; decide)) (r _) (fun j _ => rfl) rfl⟩
  rw [k 0 (by decide), r]
  exact h1 j hj
theorem zR6L.wM {L : Int} {σ μ : zSt} (h : zR6L L σ μ) {j : Nat} {v : Int32} (c : [5, 6, 7, 8, 9].contains j = false) : zR6L L σ (zsi μ 0 j v) := by
  obtain ⟨h1, h2, h3⟩ := h
  refine ⟨fun i hi => ?_, h2, h3.keep (fun _ _ => rfl) rfl (fun i hi => ?_) (zsi_ne (by decide))⟩
  · rw [zsi_ne (by decide)]
    exact h1 i hi
  · exact zsi_nj (fun e => by rw [← e, List.contains_iff_mem.mpr hi] at c; exact absurd c (by decide))
/-! feed -/
theorem p_add {σ : zSt} {x : Int32} (hr : (zgi σ 1 2).toInt ≤ 262655) : zpc (fX2_addToTape σ x) (fun r => r = zsi (zsi σ (ztp (σ.1 1 0)) (zgi σ 1 2).toNatClampNeg x) 1 2 (zgi σ 1 2 + 1)) := by
  unfold fX2_addToTape fX2_addToTape_29
  have c2 : (262656 : Int32).toInt = 262656 := rfl
  refine zpc_if (fun q => ?_) (fun q => zpc_ck (zpc_bv (fun σ1 e1 => zpc_bv (fun σ2 e2 => zpc_some ?_))))
  · have q1 := Int32.le_iff_toInt_le.mp q
    exfalso
    omega
  · have a2 : zgi σ1 1 2 = zgi σ 1 2 := by
      subst e1
      show (zsi σ (ztp _) _ _).1 1 2 = σ.1 1 2
      rw [zsi_off (fun r => z_tp1 _ r.1)]
    rw [e2, a2, e1]
    rfl
theorem z_clamp {x : Int32} (h : 0 ≤ x.toInt) : (x.toNatClampNeg : Int) = x.toInt := by
  have : x.toNatClampNeg = x.toInt.toNat := rfl
  omega
theorem z2_feed_48 {x1 : Int32} {x2 x4 x6 : Int64} (hx : zr 1 24 x1) : ∀ (n m : Nat) (σ μ : zSt) (x8 : Int32), zR6 σ μ → zr 0 24 x8 → x8.toInt ≤ x1.toInt → 0 ≤ (μ.1 0 2).toInt → (μ.1 0 2).toInt + (x1.toInt - x8.toInt) ≤ 262656 → zp2 (fX11_feed_48 n σ x1 x2 x4 x6 x8) (fX12_feed_54 m μ x1 x2 x4 x6 x8) (fun r r' => zR6 (zRis r) r'.1) := by
  intro n
  induction n with
  | zero => intro m σ μ x8 _ _ _ _ _; exact zp2_nl
  | succ n ih =>
    intro m σ μ x8 hR h8 hle h0 hb
    cases m with
    | zero => exact zp2_nr
    | succ m =>
      show zp2 (fX11_feed_48_body (fX11_feed_48 n) σ x1 x2 x4 x6 x8) (fX12_feed_54_body (fX12_feed_54 m) μ x1 x2 x4 x6 x8) _
      unfold fX11_feed_48_body fX12_feed_54_body
      have b8 := h8.1
      have bx := hx.2
      refine zp2_if (fun q => zp2_some hR) (fun q => ?_)
      have q1 := Int32.lt_iff_toInt_lt.mp (z_nle q)
      have f : ∀ s0, zp2 (fX11_feed_79 (fX11_feed_48 n) σ x1 x2 x4 x6 x8 s0) (fX12_feed_93 (fX12_feed_54 m) μ x1 x2 x4 x6 x8 s0 (zgi μ 0 2)) (fun r r' => zR6 (zRis r) r'.1) := fun s0 => by
        unfold fX11_feed_79 fX12_feed_93
        have e12 : zgi σ 1 2 = zgi μ 0 2 := hR.1
        have hl : (zgi μ 0 2).toInt ≤ 262655 := by show (μ.1 0 2).toInt ≤ 262655; omega
        refine zp2_bul (p_add (by rw [e12]; exact hl)) (fun σ1 s1 => zp2_bvl (fun v2 e2 => zp2_ckr (zp2_ckr (zp2_bvr (fun μ1 m1 => zp2_bvr (fun μ2 m2 => zp2_bvr (fun v3 e3 => ?_)))))))
        have a2 : zgi μ1 0 2 = zgi μ 0 2 := by
          subst m1
          show (zsi μ 1 _ _).1 0 2 = μ.1 0 2
          rw [zsi_off (by omega)]
        have c1 : (1 : Int32).toInt = 1 := rfl
        have r1 : zr 1 1 (1 : Int32) := zr_c (by decide)
        have t3 : (zgi μ 0 2 + 1).toInt = (zgi μ 0 2).toInt + (1 : Int32).toInt := z_tadd (a := 0) (b := 262655) ⟨h0, hl⟩ r1 (by decide)
        have l2 : (μ2.1 0 2) = zgi μ 0 2 + 1 := by rw [m2, a2, zsi_ej]
        have cl : ((zgi μ 0 2).toNatClampNeg : Int) = (zgi μ 0 2).toInt := z_clamp h0
        have g2 : (zgi μ 0 2).toInt = (μ.1 0 2).toInt := rfl
        have R1 : zR6L ((μ.1 0 2).toInt + 1) (zsi σ (ztp (σ.1 1 0)) (zgi μ 0 2).toNatClampNeg ((((zlushr s0 (8 * (x8 &&& 7))).toInt32) &&& 255))) μ1 := by
          rw [m1]
          exact hR.2.set (z_feedb ⟨b8, by omega⟩) (fun j hj nj => by omega)
        have R2 : zR6 σ1 μ2 := by
          refine ⟨?_, ?_⟩
          · rw [s1, zsi_ej, l2, e12]
          · rw [l2, t3, c1, g2, s1, e12, m2]
            exact (R1.lenC).wM (by decide)
        have t8 : (x8 + 1).toInt = x8.toInt + (1 : Int32).toInt := z_tadd h8 r1 (by decide)
        have t : v3.toInt = x8.toInt + 1 := by rw [e3, t8, c1]
        have e23 : v2 = v3 := by rw [e2, e3]
        rw [e23]
        have l3 : (μ2.1 0 2).toInt = (μ.1 0 2).toInt + 1 := by rw [l2, t3, c1, g2]
        exact ih m σ1 μ2 v3 R2 ⟨by omega, by omega⟩ (by omega) (by omega) (by omega)
      exact zp2_if (fun _ => zp2_if (fun _ => f _) (fun _ => f _)) (fun _ => f _)
end ZJN3
section ZJN4
theorem zp2_within {α β : Type} {o : Option α} {σ : zSt} {a l h : Int64} {f : zSt → Int32 → Option β} {Q : α → β → Prop} (k1 : l.toInt ≤ a.toInt → a.toInt ≤ h.toInt → zp2 o (f σ 1) Q) (k0 : (a.toInt < l.toInt ∨ h.toInt < a.toInt) → zp2 o (f σ 0) Q) : zp2 o (zbi (fX12_within σ a l h) f) Q := by
  unfold fX12_within
  by_cases q1 : lg_cmp a l < 0
  · rw [if_pos q1]; exact k0 (Or.inl (z_cmp_lt.mp q1))
  · rw [if_neg q1]
    by_cases q2 : 0 < lg_cmp a h
    · rw [if_pos q2]; exact k0 (Or.inr (z_cmp_gt.mp q2))
    · rw [if_neg q2]
      exact k1 (Int.not_lt.mp (fun r => q1 (z_cmp_lt.mpr r))) (Int.not_lt.mp (fun r => q2 (z_cmp_gt.mpr r)))
theorem zp2_fails0 {α β : Type} {o : Option α} {σ : zSt} {c : Int32} {f : zSt → Int32 → Option β} {Q : α → β → Prop} (k : ∀ σ1, σ1 = zsi σ 0 0 0 → zp2 o (f σ1 0) Q) : zp2 o (zbi (fX12_fails σ 0 c) f) Q := by
  unfold fX12_fails
  rw [if_pos rfl]
  exact k _ rfl
theorem zp2_fails1 {α β : Type} {o : Option α} {σ : zSt} {c : Int32} {f : zSt → Int32 → Option β} {Q : α → β → Prop} (k : ∀ σ1, σ1 = zsi σ 0 0 c → zp2 o (f σ1 1) Q) : zp2 o (zbi (fX12_fails σ 1 c) f) Q := by
  unfold fX12_fails
  rw [if_neg (by decide)]
  exact k _ rfl
theorem zR6.thr {σ μ μ1 : zSt} {v : Int32} (h : zR6 σ μ) (e : μ1 = zsi μ 0 0 v) : zR6 σ μ1 := by
  subst e
  refine ⟨?_, ?_⟩
  · rw [zsi_nj (by decide)]; exact h.1
  · rw [zsi_nj (by decide)]; exact h.2.wM (by decide)
theorem z_c02 {μ μ1 : zSt} {v : Int32} (e : μ1 = zsi μ 0 0 v) : zgi μ1 0 2 = zgi μ 0 2 := by
  subst e
  show (zsi μ 0 0 _).1 0 2 = μ.1 0 2
  rw [zsi_off (by omega)]
theorem z2_feed {σ μ : zSt} {x1 : Int32} {x2 x4 x6 : Int64} (h : zR6 σ μ) (hr : zr 0 262656 (zgi μ 0 2)) : zp2 (fX11_feed σ x1 x2 x4 x6) (fX12_feed μ x1 x2 x4 x6) (fun r r' => zR6 (zRis r) r'.1) := by
  unfold fX11_feed fX11_feed_11 fX12_feed
  have c1 : (1 : Int32).toInt = 1 := rfl
  have c4 : (24 : Int32).toInt = 24 := rfl
  have c2 : (262656 : Int32).toInt = 262656 := rfl
  have c0 : (0 : Int32).toInt = 0 := rfl
  refine zp2_within (fun w1 w2 => ?_) (fun w3 => ?_)
  · have hx := z_wir w1 w2 (zrl_c (lo := 1) (hi := 1) (by decide)) (zrl_c (lo := 24) (hi := 24) (by decide))
    have hx1 := hx.1
    have hx2 := hx.2
    refine zp2_ifr (fun q => absurd q (by decide)) (fun _ => ?_)
    unfold fX12_feed_18
    refine zp2_fails0 (fun μ1 e1 => zp2_ifr (fun _ => ?_) (fun q => absurd rfl q))
    refine zp2_ifl (fun q => ?_) (fun _ => zp2_ifl (fun _ => ?_) (fun q => ?_))
    · have := Int32.lt_iff_toInt_lt.mp q; exfalso; omega
    · have R1 := h.thr e1
      have e : zgi μ1 0 2 = zgi σ 1 2 := (z_c02 e1).trans h.1.symm
      have t : (zgi μ 0 2 + x1).toInt = (zgi μ 0 2).toInt + x1.toInt := z_tadd hr hx (by decide)
      rw [e]
      refine zp2_if (fun q => ?_) (fun q => ?_)
      · have q1 := Int32.le_iff_toInt_le.mp q
        rw [show zgi σ 1 2 = zgi μ 0 2 from h.1, t, c2] at q1
        unfold fX12_feed_42
        refine zp2_fails0 (fun μ2 e2 => zp2_ifr (fun _ => ?_) (fun q => absurd rfl q))
        have e3 : μ2.1 0 2 = zgi μ 0 2 := (z_c02 e2).trans (z_c02 e1)
        have hr1 := hr.1
        exact z2_feed_48 hx _ _ _ _ 0 (R1.thr e2) (zr_c (by decide)) (by omega) (by rw [e3]; exact hr1) (by rw [e3, c0]; omega)
      · unfold fX12_feed_42 fX12_feed_49
        exact zp2_fails1 (fun μ2 e2 => zp2_ifr (fun q => absurd q (by decide)) (fun _ => zp2_some (R1.thr e2)))
    · have := Int32.lt_iff_toInt_lt.mp (z_nle q); exfalso; omega
  · have hn : ¬ zr 1 24 x1 := z_within w3 rfl rfl
    refine zp2_ifr (fun _ => ?_) (fun q => absurd rfl q)
    unfold fX12_feed_18 fX12_feed_49
    refine zp2_fails1 (fun μ1 e1 => zp2_ifr (fun q => absurd q (by decide)) (fun _ => ?_))
    refine zp2_ifl (fun _ => zp2_some (h.thr e1)) (fun q => zp2_ifl (fun q1 => ?_) (fun _ => zp2_some (h.thr e1)))
    have r := Int32.le_iff_toInt_le.mp (z_nlt q)
    have r1 := Int32.le_iff_toInt_le.mp q1
    exact absurd ⟨by omega, by omega⟩ hn
/-! grow -/
theorem z2_grow_15 {x2 x3 : Int32} (h2 : 0 < x2.toInt) (h3 : zr 0 262656 x3) : ∀ (n m : Nat) (σ μ : zSt) (x4 : Int32), x4 = zgi μ 0 2 → x2.toInt ≤ x4.toInt → x4.toInt ≤ x3.toInt → zR6L x4.toInt σ μ → (∀ j : Nat, (j : Int) < x4.toInt → σ.1 (ztp (σ.1 1 0)) j = σ.1 (ztp (σ.1 1 0)) (j % x2.toNatClampNeg)) → zp2 (fX2_repeatTape_15 n σ x2 x3 x4) (fX12_grow_54 m μ x3 x2) (fun r r' => zR6 r r'.1) := by
  intro n
  induction n with
  | zero => intro m σ μ x4 _ _ _ _ _; exact zp2_nl
  | succ n ih =>
    intro m σ μ x4 e4 hle hl3 hR hp
    cases m with
    | zero => exact zp2_nr
    | succ m =>
      show zp2 (fX2_repeatTape_15_body (fX2_repeatTape_15 n) σ x2 x3 x4) (fX12_grow_54_body (fX12_grow_54 m) μ x3 x2) _
      unfold fX2_repeatTape_15_body fX12_grow_54_body
      have b3 := h3.2
      have c0 : (0 : Int32).toInt = 0 := rfl
      rw [← e4]
      refine zp2_if (fun q => ?_) (fun q => ?_)
      · have q1 := Int32.le_iff_toInt_le.mp q
        have e34 : x3 = x4 := Int32.toInt_inj.mp (by omega)
        unfold fX2_repeatTape_47
        refine zp2_bvl (fun σ1 s1 => zp2_some ?_)
        have mx : zmax x2 x3 = x3 := by
          unfold zmax
          split
          · rfl
          · next r => exact Int32.toInt_inj.mp (by have := Int32.le_iff_toInt_le.mp (z_nlt r); omega)
        have l : μ.1 0 2 = x4 := e4.symm
        refine ⟨?_, ?_⟩
        · rw [s1, zsi_ej, mx, l, e34]
        · rw [s1, l]
          exact hR.lenC
      · have q1 := Int32.lt_iff_toInt_lt.mp (z_nle q)
        refine zp2_ifl (fun r => ?_) (fun _ => ?_)
        · have := Int32.le_iff_toInt_le.mp r; exfalso; omega
        · refine zp2_ckl (zp2_ckl (zp2_bvl (fun σ1 s1 => zp2_bvl (fun v v1 => zp2_ckr (zp2_ckr (zp2_ckr (zp2_bvr (fun μ1 m1 => zp2_bvr (fun μ2 m2 => ?_)))))))))
          have c1 : (1 : Int32).toInt = 1 := rfl
          have r1 : zr 1 1 (1 : Int32) := zr_c (by decide)
          have r4 : zr 0 262655 x4 := ⟨by omega, by omega⟩
          have r2 : zr 0 262655 x2 := ⟨by omega, by omega⟩
          have t4 : (x4 + 1).toInt = x4.toInt + (1 : Int32).toInt := z_tadd r4 r1 (by decide)
          have ts : (x4 - x2).toInt = x4.toInt - x2.toInt := z_tsub r4 r2 (by decide)
          have k4 := z_clamp (x := x4) (by omega)
          have k2 := z_clamp (x := x2) (by omega)
          have ks := z_clamp (x := x4 - x2) (by omega)
          have tr := z_trem (y := x2) x2.toInt rfl r4 ⟨by decide, h2⟩
          have m0 := Int.emod_nonneg x4.toInt (b := x2.toInt) (by omega)
          have m9 := Int.emod_lt_of_pos x4.toInt (b := x2.toInt) h2
          have kr := z_clamp (x := zrem x4 x2) (by omega)
          have er : (zrem x4 x2).toNatClampNeg = x4.toNatClampNeg % x2.toNatClampNeg := by
            have e5 : ((x4.toNatClampNeg % x2.toNatClampNeg : Nat) : Int) = (x4.toNatClampNeg : Int) % (x2.toNatClampNeg : Int) := Int.natCast_emod _ _
            rw [k4, k2] at e5
            omega
          have es : (x4 - x2).toNatClampNeg = x4.toNatClampNeg - x2.toNatClampNeg := by omega
          have lt : (x4.toNatClampNeg % x2.toNatClampNeg) < x2.toNatClampNeg := Nat.mod_lt _ (by omega)
          -- the byte
          have hb : σ.1 (ztp (σ.1 1 0)) (x4 - x2).toNatClampNeg = σ.1 (ztp (σ.1 1 0)) (x4.toNatClampNeg % x2.toNatClampNeg) := by
            rw [es, hp _ (by omega), ← Nat.mod_eq_sub_mod (by omega)]
          have hm : σ.1 (ztp (σ.1 1 0)) (x4.toNatClampNeg % x2.toNatClampNeg) = μ.1 1 (x4.toNatClampNeg % x2.toNatClampNeg) &&& 255 := hR.1 _ (by omega)
          have hy : σ.1 (ztp (σ.1 1 0)) (x4 - x2).toNatClampNeg = vp_nar .byte (μ.1 1 (zrem x4 x2).toNatClampNeg) &&& 255 := by rw [z_nar, er, hb]; exact hm
          have R1 : zR6L (x4.toInt + 1) σ1 μ1 := by
            rw [s1, m1]
            exact hR.set hy (fun j hj nj => by omega)
          have a2 : zgi μ1 0 2 = x4 := by
            rw [m1, e4]
            show (zsi μ 1 _ _).1 0 2 = μ.1 0 2
            rw [zsi_off (by omega)]
          have l2 : zgi μ2 0 2 = x4 + 1 := by
            rw [m2, a2]
            exact zsi_ej
          have ev : v = x4 + 1 := v1
          have w1 : σ1.1 1 0 = σ.1 1 0 := by
            rw [s1]
            exact zsi_off (fun r => z_tp1 _ r.1)
          rw [ev]
          refine ih m σ1 μ2 (x4 + 1) l2.symm (by omega) (by omega) ?_ (fun j hj => ?_)
          · rw [t4, c1, m2]
            exact R1.wM (by decide)
          · rw [w1]
            have at1 : ∀ i : Nat, σ1.1 (ztp (σ.1 1 0)) i = if i = x4.toNatClampNeg then σ.1 (ztp (σ.1 1 0)) (x4 - x2).toNatClampNeg else σ.1 (ztp (σ.1 1 0)) i := fun i => by
              rw [s1]
              show (zsi σ (ztp (σ.1 1 0)) _ _).1 (ztp (σ.1 1 0)) i = _
              by_cases q : i = x4.toNatClampNeg
              · rw [if_pos q, q, zsi_ej]; rfl
              · rw [if_neg q, zsi_nj q]
            have lj : j % x2.toNatClampNeg < x2.toNatClampNeg := Nat.mod_lt _ (by omega)
            rw [at1 j, at1 (j % x2.toNatClampNeg), if_neg (show ¬ j % x2.toNatClampNeg = x4.toNatClampNeg by omega)]
            by_cases q : j = x4.toNatClampNeg
            · rw [if_pos q, hb, q]
            · rw [if_neg q]
              exact hp j (by omega)
theorem z2_grow {σ μ : zSt} {x1 : Int32} (h : zR6 σ μ) (hr : zr 0 262656 (zgi μ 0 2)) : zp2 (fX11_grow σ x1) (fX12_grow μ x1) (fun r r' => zR6 (zRis r) r'.1) := by
  unfold fX11_grow fX11_grow_19 fX12_grow fX12_grow_15
  have c2 : (262656 : Int32).toInt = 262656 := rfl
  have c0 : (0 : Int32).toInt = 0 := rfl
  have e12 : zgi σ 1 2 = zgi μ 0 2 := h.1
  refine zp2_bvl (fun v1 e1 => ?_)
  rw [e12] at e1
  subst e1
  have no : zp2 (some (Sum.inr (σ, 1)) : Option zRi) (fX12_grow_20 μ x1 1) (fun r r' => zR6 (zRis r) r'.1) := by
    unfold fX12_grow_20 fX12_grow_47
    exact zp2_fails1 (fun μ1 e1 => zp2_ifr (fun q => absurd q (by decide)) (fun _ => zp2_some (h.thr e1)))
  refine zp2_if (fun _ => no) (fun q => zp2_if (fun q1 => ?_) (fun _ => no))
  have r := Int32.le_iff_toInt_le.mp (z_nlt q)
  have r1 := Int32.le_iff_toInt_le.mp q1
  rw [c2] at r1
  have hr1 := hr.1
  unfold fX12_grow_20
  refine zp2_fails0 (fun μ1 e1 => zp2_ifr (fun _ => ?_) (fun q => absurd rfl q))
  rw [z_c02 e1]
  have R1 := h.thr e1
  refine zp2_if (fun q2 => ?_) (fun q2 => ?_)
  · unfold fX12_grow_40 fX12_grow_47
    exact zp2_fails1 (fun μ2 e2 => zp2_ifr (fun q => absurd q (by decide)) (fun _ => zp2_some (R1.thr e2)))
  · unfold fX12_grow_40 fX2_repeatTape
    refine zp2_fails0 (fun μ2 e2 => zp2_ifr (fun _ => zp2_bvr (fun v5 e5 => ?_)) (fun q => absurd rfl q))
    have R2 := R1.thr e2
    have l2 : zgi μ2 0 2 = zgi μ 0 2 := (z_c02 e2).trans (z_c02 e1)
    have m1 : zmin x1 262656 = x1 := by
      unfold zmin
      rw [if_neg (fun h => by have := Int32.lt_iff_toInt_lt.mp h; omega)]
    have n0 : ¬ (zgi μ 0 2).toInt = 0 := fun z => q2 (Int32.toInt_inj.mp (z.trans c0.symm))
    have two : zp2 (fX2_repeatTape_15 zfuel σ (zgi μ 0 2) x1 (zgi μ 0 2)) (fX12_grow_54 zfuel μ2 x1 (zgi μ 0 2)) (fun r r' => zR6 r r'.1) := by
      refine z2_grow_15 (by omega) ⟨by omega, r1⟩ zfuel zfuel σ μ2 _ l2.symm (Int.le_refl _) r ?_ (fun j hj => ?_)
      · have z := R2.2
        rw [show μ2.1 0 2 = zgi μ 0 2 from l2] at z
        exact z
      · have k := z_clamp (x := zgi μ 0 2) (by omega)
        rw [Nat.mod_eq_of_lt (by omega)]
    rw [e5, l2]
    refine fun a b ea eb => ?_
    have eq : zbu (zbv (zgi σ 1 2) (fun v4 => zbv (zmin x1 262656) (fun v5 => fX2_repeatTape_15 zfuel σ v4 v5 v4))) (fun σ2 => (some (Sum.inl (σ2, zgi μ 0 2)) : Option zRi)) = some a := ea
    have eq2 : zbu (fX2_repeatTape_15 zfuel σ (zgi μ 0 2) x1 (zgi μ 0 2)) (fun σ2 => (some (Sum.inl (σ2, zgi μ 0 2)) : Option zRi)) = some a := by
      rw [← eq]
      show _ = zbu (fX2_repeatTape_15 zfuel σ (zgi σ 1 2) (zmin x1 262656) (zgi σ 1 2)) _
      rw [m1, e12]
    cases q9 : fX2_repeatTape_15 zfuel σ (zgi μ 0 2) x1 (zgi μ 0 2) with
    | none => rw [q9] at eq2; cases eq2
    | some s =>
      rw [q9] at eq2
      have ea2 : (some (Sum.inl (s, zgi μ 0 2)) : Option zRi) = some a := eq2
      cases ea2
      exact two s b q9 eb
/-! patch -/
theorem z2_patch_3 {x1 : Int32} {x2 : Int64} : ∀ (n m : Nat) (σ μ : zSt) (x4 : Int32), zR6 σ μ → zr 0 8 x4 → 0 ≤ x1.toInt → x1.toInt + 8 ≤ (zgi μ 0 2).toInt → (zgi μ 0 2).toInt ≤ 262656 → zp2 (fX2_changeTape_3 n σ x1 x2 x4) (fX12_patch_32 m μ x1 x2 x4) (fun r r' => zR6 r r') := by
  intro n
  induction n with
  | zero => intro m σ μ x4 _ _ _ _ _; exact zp2_nl
  | succ n ih =>
    intro m σ μ x4 hR h4 hx hl hm
    cases m with
    | zero => exact zp2_nr
    | succ m =>
      show zp2 (fX2_changeTape_3_body (fX2_changeTape_3 n) σ x1 x2 x4) (fX12_patch_32_body (fX12_patch_32 m) μ x1 x2 x4) _
      unfold fX2_changeTape_3_body fX12_patch_32_body fX2_changeTape_52
      have c8 : (8 : Int32).toInt = 8 := rfl
      have c0 : (0 : Int32).toInt = 0 := rfl
      have b4 := h4.1
      refine zp2_if (fun q => zp2_some hR) (fun q => ?_)
      have q1 := Int32.lt_iff_toInt_lt.mp (z_nle q)
      have t : (x1 + x4).toInt = x1.toInt + x4.toInt := z_tadd (a := 0) (b := 262656) (c := 0) (d := 8) ⟨hx, by omega⟩ h4 (by decide)
      have e12 : zgi σ 1 2 = zgi μ 0 2 := hR.1
      refine zp2_ifl (fun r => ?_) (fun _ => zp2_ifl (fun r => ?_) (fun _ => ?_))
      · have := Int32.lt_iff_toInt_lt.mp r; exfalso; omega
      · rw [e12] at r
        have := Int32.le_iff_toInt_le.mp r
        exfalso
        omega
      · refine zp2_ckl (zp2_bvl (fun σ1 s1 => zp2_bvl (fun v2 e2 => zp2_ckr (zp2_bvr (fun μ1 m1 => zp2_bvr (fun v3 e3 => ?_))))))
        have R1 : zR6L (μ.1 0 2).toInt σ1 μ1 := by
          rw [s1, m1]
          exact hR.2.set (z_patchb ⟨b4, by omega⟩) (fun j hj _ => hj)
        have l1 : zgi μ1 0 2 = zgi μ 0 2 := by
          rw [m1]
          show (zsi μ 1 _ _).1 0 2 = μ.1 0 2
          rw [zsi_off (by omega)]
        have l0 : σ1.1 1 2 = σ.1 1 2 := by
          rw [s1]
          exact zsi_off (fun r => z_tp1 _ r.1)
        have R2 : zR6 σ1 μ1 := ⟨by rw [l0]; exact hR.1.trans l1.symm, by rw [show μ1.1 0 2 = μ.1 0 2 from l1]; exact R1⟩
        have c1 : (1 : Int32).toInt = 1 := rfl
        have t4 : (x4 + 1).toInt = x4.toInt + (1 : Int32).toInt := z_tadd h4 (zr_c (lo := 1) (hi := 1) (by decide)) (by decide)
        rw [e2, e3]
        exact ih m σ1 μ1 (x4 + 1) R2 ⟨by omega, by omega⟩ hx (by rw [l1]; exact hl) (by rw [l1]; exact hm)
theorem z2_patch {σ μ : zSt} {x1 : Int32} {x2 : Int64} (h : zR6 σ μ) (hr : zr 0 262656 (zgi μ 0 2)) : zp2 (fX11_patch σ x1 x2) (fX12_patch μ x1 x2) (fun r r' => zR6 (zRus r) r') := by
  unfold fX11_patch fX11_patch_18 fX12_patch fX12_patch_16
  have c0 : (0 : Int32).toInt = 0 := rfl
  have c8 : (8 : Int32).toInt = 8 := rfl
  have e12 : zgi σ 1 2 = zgi μ 0 2 := h.1
  have no : zp2 (some (Sum.inr (σ, 1)) : Option zRu) (fX12_patch_21 μ x1 x2 1) (fun r r' => zR6 (zRus r) r') := by
    unfold fX12_patch_21
    exact zp2_fails1 (fun μ1 e1 => zp2_ifr (fun q => absurd q (by decide)) (fun _ => zp2_some (h.thr e1)))
  have t : (zgi μ 0 2 - 8).toInt = (zgi μ 0 2).toInt - (8 : Int32).toInt := z_tsub hr (zr_c (lo := 8) (hi := 8) (by decide)) (by decide)
  rw [e12]
  refine zp2_if (fun _ => no) (fun q => zp2_if (fun q1 => ?_) (fun _ => no))
  have r := Int32.le_iff_toInt_le.mp (z_nlt q)
  have r1 := Int32.le_iff_toInt_le.mp q1
  rw [t, c8] at r1
  unfold fX12_patch_21 fX2_changeTape
  refine zp2_fails0 (fun μ1 e1 => zp2_ifr (fun _ => ?_) (fun q => absurd rfl q))
  have l := z_c02 e1
  have hr2 := hr.2
  have two : zp2 (fX2_changeTape_3 zfuel σ x1 x2 0) (fX12_patch_32 zfuel μ1 x1 x2 0) (fun r r' => zR6 r r') := z2_patch_3 zfuel zfuel σ μ1 0 (h.thr e1) (zr_c (by decide)) (by omega) (by rw [l]; omega) (by rw [l]; exact hr2)
  refine fun a b ea eb => ?_
  cases q9 : fX2_changeTape_3 zfuel σ x1 x2 0 with
  | none => rw [q9] at ea; cases ea
  | some s =>
    rw [q9] at ea
    have ea2 : (some (Sum.inl s) : Option zRu) = some a := ea
    cases ea2
    exact two s b q9 eb
end ZJN4
section ZJN5
/-! what a cartridge's bytes say: the header's place, the paging -/
noncomputable def zHm (b : Nat → Int32) (p : Nat) : Prop := ∀ i, i < 8 → b (p + i) = zt0 i
noncomputable def zHp (z : Int32) (b : Nat → Int32) (p : Nat) : Prop := (p : Int) + 16 ≤ z.toInt ∧ zHm b p
/-- h is the place that both sides find -/
noncomputable def zIsH (z : Int32) (b : Nat → Int32) (h : Int32) : Prop := (zHp z b 32752 ∧ h = 32752) ∨ (¬ zHp z b 32752 ∧ zHp z b 16368 ∧ h = 16368) ∨ (¬ zHp z b 32752 ∧ ¬ zHp z b 16368 ∧ zHp z b 8176 ∧ h = 8176) ∨ (¬ zHp z b 32752 ∧ ¬ zHp z b 16368 ∧ ¬ zHp z b 8176 ∧ h = -1)
theorem zIsH.one {z : Int32} {b : Nat → Int32} {h h' : Int32} (a : zIsH z b h) (c : zIsH z b h') : h = h' := by
  rcases a with ⟨a1, e⟩ | ⟨a1, a2, e⟩ | ⟨a1, a2, a3, e⟩ | ⟨a1, a2, a3, e⟩ <;> rcases c with ⟨c1, f⟩ | ⟨c1, c2, f⟩ | ⟨c1, c2, c3, f⟩ | ⟨c1, c2, c3, f⟩ <;> first | exact e.trans f.symm | exact absurd a1 c1 | exact absurd c1 a1 | exact absurd a2 c2 | exact absurd c2 a2 | exact absurd a3 c3 | exact absurd c3 a3
theorem zHp.cong {z : Int32} {b b' : Nat → Int32} {p : Nat} (e : ∀ j : Nat, (j : Int) < z.toInt → b j = b' j) (h : zHp z b p) : zHp z b' p := ⟨h.1, fun i hi => by rw [← e (p + i) (by have := h.1; omega)]; exact h.2 i hi⟩
theorem zHp_cong {z : Int32} {b b' : Nat → Int32} {p : Nat} (e : ∀ j : Nat, (j : Int) < z.toInt → b j = b' j) : zHp z b p ↔ zHp z b' p := ⟨zHp.cong e, zHp.cong (fun j hj => (e j hj).symm)⟩
theorem zIsH.cong {z : Int32} {b b' : Nat → Int32} {h : Int32} (e : ∀ j : Nat, (j : Int) < z.toInt → b j = b' j) (a : zIsH z b h) : zIsH z b' h := by
  unfold zIsH at a ⊢
  rw [← zHp_cong (p := 32752) e, ← zHp_cong (p := 16368) e, ← zHp_cong (p := 8176) e]
  exact a
noncomputable def zWd (b : Nat → Int32) (p : Nat) : Int32 := b p + 256 * b (p + 1)
noncomputable def zIsP (z : Int32) (b : Nat → Int32) (h v : Int32) : Prop := (¬ 49152 < z ∧ v = 0) ∨ (49152 < z ∧ zWd b 32742 + zWd b 32744 = 65536 ∧ v = 2) ∨ (49152 < z ∧ ¬ zWd b 32742 + zWd b 32744 = 65536 ∧ 0 ≤ h ∧ v = 1) ∨ (49152 < z ∧ ¬ zWd b 32742 + zWd b 32744 = 65536 ∧ ¬ 0 ≤ h ∧ v = 3)
theorem zIsP.one {z : Int32} {b : Nat → Int32} {h v v' : Int32} (a : zIsP z b h v) (c : zIsP z b h v') : v = v' := by
  rcases a with ⟨a1, e⟩ | ⟨a1, a2, e⟩ | ⟨a1, a2, a3, e⟩ | ⟨a1, a2, a3, e⟩ <;> rcases c with ⟨c1, f⟩ | ⟨c1, c2, f⟩ | ⟨c1, c2, c3, f⟩ | ⟨c1, c2, c3, f⟩ <;> first | exact e.trans f.symm | exact absurd a1 c1 | exact absurd c1 a1 | exact absurd a2 c2 | exact absurd c2 a2 | exact absurd a3 c3 | exact absurd c3 a3
theorem zIsP.cong {z : Int32} {b b' : Nat → Int32} {h v : Int32} (e : ∀ j : Nat, (j : Int) < z.toInt → b j = b' j) (a : zIsP z b h v) : zIsP z b' h v := by
  by_cases q : 49152 < z
  · have q1 := Int32.lt_iff_toInt_lt.mp q
    have c : (49152 : Int32).toInt = 49152 := rfl
    unfold zIsP zWd at a ⊢
    rw [← e 32742 (by omega), ← e (32742 + 1) (by omega), ← e 32744 (by omega), ← e (32744 + 1) (by omega)]
    exact a
  · rcases a with ⟨a1, e⟩ | ⟨a1, _⟩ | ⟨a1, _⟩ | ⟨a1, _⟩
    · exact Or.inl ⟨a1, e⟩
    · exact absurd a1 q
    · exact absurd a1 q
    · exact absurd a1 q
/-! the class: bytes of the cartridge -/
noncomputable def zCb (σ : zSt) (j : Nat) : Int32 := σ.1 (ztp (σ.1 1 1)) ((σ.1 1 3).toNatClampNeg + j)
theorem p_romByte {σ : zSt} {x : Int32} (h0 : 0 ≤ x.toInt) (h1 : x.toInt < (σ.1 1 4).toInt) (hb : zr 0 512 (σ.1 1 3)) (hz : (σ.1 1 4).toInt ≤ 262144) : zpc (fX2_romByte σ x) (fun r => r.1 = σ ∧ r.2 = zCb σ x.toNatClampNeg) := by
  unfold fX2_romByte fX2_romByte_26 fX2_romByte_29
  have c0 : (0 : Int32).toInt = 0 := rfl
  refine zpc_if (fun q => ?_) (fun _ => zpc_if (fun q => ?_) (fun _ => zpc_ck (zpc_some ⟨rfl, ?_⟩)))
  · have := Int32.lt_iff_toInt_lt.mp q; exfalso; omega
  · have := Int32.le_iff_toInt_le.mp q
    have : (zgi σ 1 4).toInt = (σ.1 1 4).toInt := rfl
    exfalso
    omega
  · have t : (σ.1 1 3 + x).toInt = (σ.1 1 3).toInt + x.toInt := z_tadd (c := 0) (d := 262144) hb ⟨h0, by omega⟩ (by decide)
    have b1 := hb.1
    have k := z_clamp (x := σ.1 1 3 + x) (by omega)
    have k1 := z_clamp (x := σ.1 1 3) b1
    have k2 := z_clamp (x := x) h0
    show σ.1 (ztp (σ.1 1 1)) (σ.1 1 3 + x).toNatClampNeg = σ.1 (ztp (σ.1 1 1)) ((σ.1 1 3).toNatClampNeg + x.toNatClampNeg)
    rw [show (σ.1 1 3 + x).toNatClampNeg = (σ.1 1 3).toNatClampNeg + x.toNatClampNeg by omega]
section ZCARD
variable {σ : zSt}
theorem p_head_41 {k9 : zSt → Int32 → Int32 → Option (zSt × Int32)} {x2 x3 x4 : Int32} {Q : zSt × Int32 → Prop} (hb : zr 0 512 (σ.1 1 3)) (hz : zr 0 262144 (σ.1 1 4)) (h4 : 0 ≤ x4.toInt) (h5 : x4.toInt + 16 ≤ (σ.1 1 4).toInt) (yes : zHm (zCb σ) x4.toNatClampNeg → Q (σ, x4)) (no : ¬ zHm (zCb σ) x4.toNatClampNeg → zpc (k9 σ x2 (x3 + 1)) Q) : ∀ (n : Nat) (x5 x6 : Int32), zr 0 8 x6 → ((x5 = 1 ∧ ∀ i : Nat, (i : Int) < x6.toInt → zCb σ (x4.toNatClampNeg + i) = zt0 i) ∨ (x5 = 0 ∧ ¬ zHm (zCb σ) x4.toNatClampNeg)) → zpc (fX2_findHeader_41 k9 n σ x2 x3 x4 x5 x6) Q := by
  intro n
  induction n with
  | zero => intro x5 x6 _ _; exact zpc_none
  | succ n ih =>
    intro x5 x6 h6 hI
    show zpc (fX2_findHeader_41_body k9 (fX2_findHeader_41 k9 n) σ x2 x3 x4 x5 x6) _
    unfold fX2_findHeader_41_body
    have c8 : (8 : Int32).toInt = 8 := rfl
    have b6 := h6.1
    have b62 := h6.2
    have hz2 := hz.2
    have k4 := z_clamp h4
    have k6 := z_clamp b6
    have out : ((x5 = 1 ∧ zHm (zCb σ) x4.toNatClampNeg) ∨ (x5 = 0 ∧ ¬ zHm (zCb σ) x4.toNatClampNeg)) → zpc (fX2_findHeader_84 k9 σ x2 x3 x4 x5) Q := fun a => by
      unfold fX2_findHeader_84
      refine zpc_if (fun q => ?_) (fun q => ?_)
      · rcases a with ⟨a1, _⟩ | ⟨_, a2⟩
        · rw [a1] at q; exact absurd q (by decide)
        · exact zpc_bv (fun v e => by subst e; exact no a2)
      · rcases a with ⟨_, a2⟩ | ⟨a1, _⟩
        · exact zpc_some (yes a2)
        · exact absurd a1 q
    refine zpc_if (fun q => ?_) (fun q => zpc_if (fun q1 => ?_) (fun q1 => ?_))
    · have q2 := Int32.le_iff_toInt_le.mp q
      rcases hI with ⟨a1, a2⟩ | a
      · exact out (Or.inl ⟨a1, fun i hi => a2 i (by omega)⟩)
      · exact out (Or.inr a)
    · rcases hI with ⟨a1, _⟩ | a
      · rw [a1] at q1; exact absurd q1 (by decide)
      · exact out (Or.inr a)
    · have q2 := Int32.lt_iff_toInt_lt.mp (z_nle q)
      rcases hI with ⟨a1, a2⟩ | a
      · have t : (x4 + x6).toInt = x4.toInt + x6.toInt := z_tadd (a := 0) (b := 262144) (c := 0) (d := 8) ⟨h4, by omega⟩ h6 (by decide)
        have ks := z_clamp (x := x4 + x6) (by omega)
        refine zpc_bi (p_romByte (x := x4 + x6) (by omega) (by omega) hb hz2) (fun σ1 v4 p => ?_)
        obtain ⟨p1, p2⟩ := p
        have p1 : σ1 = σ := p1
        have p2 : v4 = zCb σ (x4 + x6).toNatClampNeg := p2
        subst p1
        rw [show (x4 + x6).toNatClampNeg = x4.toNatClampNeg + x6.toNatClampNeg by omega] at p2
        have c1 : (1 : Int32).toInt = 1 := rfl
        have t6 : (x6 + 1).toInt = x6.toInt + (1 : Int32).toInt := z_tadd h6 (zr_c (lo := 1) (hi := 1) (by decide)) (by decide)
        unfold fX2_findHeader_76
        refine zpc_ck (zpc_if (fun r => zpc_bv (fun v e => ?_)) (fun r => zpc_bv (fun v e => ?_)))
        · subst e
          refine ih 1 (x6 + 1) ⟨by omega, by omega⟩ (Or.inl ⟨rfl, fun i hi => ?_⟩)
          by_cases qi : i = x6.toNatClampNeg
          · rw [qi, ← p2]; exact r
          · exact a2 i (by omega)
        · subst e
          refine ih 0 (x6 + 1) ⟨by omega, by omega⟩ (Or.inr ⟨rfl, fun m => r ?_⟩)
          rw [p2]
          exact m _ (by omega)
      · exact absurd a.1 q1
theorem p_head_9 {x3 : Int32} {Q : zSt × Int32 → Prop} (hb : zr 0 512 (σ.1 1 3)) (hz : zr 0 262144 (σ.1 1 4)) {i : Nat} (h3 : x3 = Int32.ofNat i) (hi : i < 3) {n : Nat} (yes : zHp (σ.1 1 4) (zCb σ) (zt1 i).toNatClampNeg → Q (σ, zt1 i)) (no : ¬ zHp (σ.1 1 4) (zCb σ) (zt1 i).toNatClampNeg → zpc (fX2_findHeader_9 n σ 3 (x3 + 1)) Q) : zpc (fX2_findHeader_9 (n + 1) σ 3 x3) Q := by
  show zpc (fX2_findHeader_9_body (fX2_findHeader_9 n) σ 3 x3) _
  unfold fX2_findHeader_9_body fX2_findHeader_36
  have l3 : ∀ i : Fin 3, ¬ (3 : Int32) ≤ Int32.ofNat i.val ∧ (Int32.ofNat i.val).toNatClampNeg = i.val ∧ 0 ≤ (zt1 i.val).toInt ∧ (zt1 i.val).toInt ≤ 32752 := by decide +kernel
  obtain ⟨l1, l2, l4, l5⟩ := l3 ⟨i, hi⟩
  have l1 : ¬ (3 : Int32) ≤ x3 := by rw [h3]; exact l1
  have l2 : x3.toNatClampNeg = i := by rw [h3]; exact l2
  have l4 : 0 ≤ (zt1 i).toInt := l4
  have l5 : (zt1 i).toInt ≤ 32752 := l5
  refine zpc_if (fun q => absurd q l1) (fun _ => zpc_ck (zpc_bv (fun v5 e5 => ?_)))
  rw [l2] at e5
  subst e5
  have c6 : (16 : Int32).toInt = 16 := rfl
  have t : (zt1 i + 16).toInt = (zt1 i).toInt + (16 : Int32).toInt := z_tadd (a := 0) (b := 32752) ⟨l4, l5⟩ (zr_c (lo := 16) (hi := 16) (by decide)) (by decide)
  have k := z_clamp l4
  refine zpc_if (fun q => ?_) (fun q => ?_)
  · have q1 := Int32.lt_iff_toInt_lt.mp q
    have g : (zgi σ 1 4).toInt = (σ.1 1 4).toInt := rfl
    have nh : ¬ zHp (σ.1 1 4) (zCb σ) (zt1 i).toNatClampNeg := fun r => by have := r.1; omega
    -- the places are too far: 0 at once
    obtain ⟨m, hm⟩ : ∃ m, zfuel = m + 1 := ⟨1999999, rfl⟩
    rw [hm]
    show zpc (fX2_findHeader_41_body (fX2_findHeader_9 n) (fX2_findHeader_41 (fX2_findHeader_9 n) m) σ 3 x3 (zt1 i) 0 0) Q
    unfold fX2_findHeader_41_body fX2_findHeader_84
    refine zpc_if (fun r => absurd r (by decide)) (fun _ => zpc_if (fun _ => zpc_if (fun _ => zpc_bv (fun v e => ?_)) (fun r => absurd rfl r)) (fun r => absurd rfl r))
    subst e
    exact no nh
  · have q1 := Int32.le_iff_toInt_le.mp (z_nlt q)
    have g : (zgi σ 1 4).toInt = (σ.1 1 4).toInt := rfl
    refine p_head_41 hb hz l4 (by omega) (fun m => yes ⟨by omega, m⟩) (fun m => no (fun r => m r.2)) zfuel 1 0 (zr_c (by decide)) (Or.inl ⟨rfl, fun i hi => ?_⟩)
    have : (0 : Int32).toInt = 0 := rfl
    exfalso
    omega
theorem p_header (hb : zr 0 512 (σ.1 1 3)) (hz : zr 0 262144 (σ.1 1 4)) : zpc (fX2_findHeader σ ) (fun r => r.1 = σ ∧ zIsH (σ.1 1 4) (zCb σ) r.2) := by
  unfold fX2_findHeader
  obtain ⟨m, hm⟩ : ∃ m, zfuel = m + 1 + 1 + 1 + 1 := ⟨1999996, rfl⟩
  rw [hm]
  refine p_head_9 (i := 0) hb hz rfl (by decide) (fun y => ⟨rfl, Or.inl ⟨y, rfl⟩⟩) (fun n0 => ?_)
  refine p_head_9 (i := 1) hb hz (by decide) (by decide) (fun y => ⟨rfl, Or.inr (Or.inl ⟨n0, y, rfl⟩)⟩) (fun n1 => ?_)
  refine p_head_9 (i := 2) hb hz (by decide) (by decide) (fun y => ⟨rfl, Or.inr (Or.inr (Or.inl ⟨n0, n1, y, rfl⟩))⟩) (fun n2 => ?_)
  show zpc (fX2_findHeader_9_body (fX2_findHeader_9 m) σ 3 (0 + 1 + 1 + 1)) _
  unfold fX2_findHeader_9_body
  exact zpc_if (fun _ => zpc_some ⟨rfl, Or.inr (Or.inr (Or.inr ⟨n0, n1, n2, rfl⟩))⟩) (fun r => absurd (by decide) r)
theorem p_romWord {x : Int32} (h0 : 0 ≤ x.toInt) (h1 : x.toInt + 1 < (σ.1 1 4).toInt) (hb : zr 0 512 (σ.1 1 3)) (hz : zr 0 262144 (σ.1 1 4)) : zpc (fX2_romWord σ x) (fun r => r.1 = σ ∧ r.2 = zWd (zCb σ) x.toNatClampNeg) := by
  unfold fX2_romWord
  have hz2 := hz.2
  refine zpc_bi (p_romByte h0 (by omega) hb hz2) (fun σ1 v2 p => ?_)
  obtain ⟨p1, p2⟩ := p
  have p1 : σ1 = σ := p1
  subst p1
  have c1 : (1 : Int32).toInt = 1 := rfl
  have t : (x + 1).toInt = x.toInt + (1 : Int32).toInt := z_tadd (a := 0) (b := 262144) ⟨h0, by omega⟩ (zr_c (lo := 1) (hi := 1) (by decide)) (by decide)
  have k := z_clamp h0
  have k1 := z_clamp (x := x + 1) (by omega)
  refine zpc_bi (p_romByte (x := x + 1) (by omega) (by omega) hb hz2) (fun σ3 v4 p => ?_)
  obtain ⟨r1, r2⟩ := p
  have r1 : σ3 = σ1 := r1
  subst r1
  have p2 : v2 = zCb σ3 x.toNatClampNeg := p2
  have r2 : v4 = zCb σ3 (x + 1).toNatClampNeg := r2
  refine zpc_some ⟨rfl, ?_⟩
  show v2 + (256 * v4) = zCb σ3 x.toNatClampNeg + 256 * zCb σ3 (x.toNatClampNeg + 1)
  rw [p2, r2, show (x + 1).toNatClampNeg = x.toNatClampNeg + 1 by omega]
theorem p_paging (hb : zr 0 512 (σ.1 1 3)) (hz : zr 0 262144 (σ.1 1 4)) : zpc (fX2_findPaging σ ) (fun r => r.1 = σ ∧ zIsP (σ.1 1 4) (zCb σ) (σ.1 1 7) r.2) := by
  unfold fX2_findPaging fX2_findPaging_45
  refine zpc_if (fun q => ?_) (fun q => zpc_some ⟨rfl, Or.inl ⟨q, rfl⟩⟩)
  have q1 := Int32.lt_iff_toInt_lt.mp q
  have c : (49152 : Int32).toInt = 49152 := rfl
  have g : (zgi σ 1 4).toInt = (σ.1 1 4).toInt := rfl
  have c1 : (32742 : Int32).toInt = 32742 := rfl
  have c2 : (32744 : Int32).toInt = 32744 := rfl
  refine zpc_bi (p_romWord (x := 32742) (by omega) (by omega) hb hz) (fun σ1 v2 p => ?_)
  obtain ⟨p1, p2⟩ := p
  have p1 : σ1 = σ := p1
  subst p1
  refine zpc_bi (p_romWord (x := 32744) (by omega) (by omega) hb hz) (fun σ3 v4 p => ?_)
  obtain ⟨r1, r2⟩ := p
  have r1 : σ3 = σ1 := r1
  subst r1
  have p2 : v2 = zWd (zCb σ3) 32742 := p2
  have r2 : v4 = zWd (zCb σ3) 32744 := r2
  rw [p2, r2]
  refine zpc_if (fun s => zpc_some ⟨rfl, Or.inr (Or.inl ⟨q, s, rfl⟩)⟩) (fun s => zpc_if (fun u => zpc_some ⟨rfl, Or.inr (Or.inr (Or.inl ⟨q, s, u, rfl⟩))⟩) (fun u => zpc_some ⟨rfl, Or.inr (Or.inr (Or.inr ⟨q, s, u, rfl⟩))⟩))
end ZCARD
end ZJN5
section ZJN6
/-! the reference's load -/
noncomputable def zMb (μ : zSt) (j : Nat) : Int32 := μ.1 2 j &&& 255
noncomputable def zMid (z bk : Int32) (B : Nat → Int32) (μ : zSt) : Prop := μ.1 0 5 = z ∧ μ.1 0 6 = bk ∧ ∀ j : Nat, (j : Int) < z.toInt → μ.1 2 j &&& 255 = B j
noncomputable def zFin (z bk : Int32) (B : Nat → Int32) (r : zSt × Int32) : Prop := zMid z bk B r.1 ∧ zIsH z B (r.1.1 0 8) ∧ zIsP z B (r.1.1 0 8) (r.1.1 0 7) ∧ (0 ≤ (r.1.1 0 8).toInt → r.1.1 0 9 = zSum z (r.1.1 0 8) B)
theorem zMid.w {z bk : Int32} {B : Nat → Int32} {μ μ1 : zSt} {j : Nat} {v : Int32} (h : zMid z bk B μ) (e : μ1 = zsi μ 0 j v) (c : ¬ 5 = j ∧ ¬ 6 = j) : zMid z bk B μ1 := by
  subst e
  refine ⟨?_, ?_, fun i hi => ?_⟩
  · rw [zsi_nj c.1]; exact h.1
  · rw [zsi_nj c.2]; exact h.2.1
  · rw [zsi_ne (by decide)]; exact h.2.2 i hi
theorem zSm_cong {b b' : Nat → Int32} : ∀ (n i : Nat) (a : Int32), (∀ j, i ≤ j → j < i + n → b j = b' j) → zSm b n i a = zSm b' n i a := by
  intro n
  induction n with
  | zero => intro i a _; rfl
  | succ n ih =>
    intro i a h
    show zSm b n (i + 1) (a + b i) = zSm b' n (i + 1) (a + b' i)
    rw [h i (by omega) (by omega)]
    exact ih (i + 1) _ (fun j h1 h2 => h j (by omega) (by omega))
theorem zSum_cong {z h : Int32} {b b' : Nat → Int32} (e : ∀ j : Nat, (j : Int) < z.toInt → b j = b' j) (h0 : 0 ≤ h.toInt) (h1 : h.toInt + 16 ≤ z.toInt) : zSum z h b = zSum z h b' := by
  have kh := z_clamp h0
  have kz := z_clamp (x := z) (by omega)
  unfold zSum
  rw [zSm_cong (b := b) (b' := b') h.toNatClampNeg 0 0 (fun j _ h2 => e j (by omega)), zSm_cong (b := b) (b' := b') (z.toNatClampNeg - 32768) 32768 _ (fun j h1 h2 => e j (by omega)), e (h.toNatClampNeg + 15) (by omega)]
theorem z_and15 {x : Int32} : x &&& 15 = (x &&& 255) &&& 15 := by
  rw [Int32.and_assoc, show (255 : Int32) &&& 15 = 15 by decide]
section ZLOAD
variable {z bk : Int32} {B : Nat → Int32}
theorem d_404 {μ : zSt} {s0 : Int32} (hm : zMid z bk B μ) (hh : zIsH z B (μ.1 0 8)) (hp : zIsP z B (μ.1 0 8) (μ.1 0 7)) (hs : 0 ≤ (μ.1 0 8).toInt → s0 = zSum z (μ.1 0 8) B) : zpc (fX12_load_404 μ s0) (zFin z bk B) := by
  unfold fX12_load_404
  refine zpc_bv (fun μ1 e1 => ?_)
  have k1 : zKeM μ1 μ1 := ⟨rfl, rfl, fun _ _ => rfl⟩
  refine zpc_bu (w_fX12_anew k1) (fun μ2 k2 => zpc_mono (w_fX12_load_414 (σ0 := μ1) _ _ _ k2) (fun r k => ?_))
  obtain ⟨_, a2, a3⟩ := k
  have m1 : zMid z bk B μ1 := hm.w e1 (by decide)
  have e8 : r.1.1 0 8 = μ.1 0 8 := (a3 8 (by decide)).trans (by rw [e1]; exact zsi_nj (by decide))
  have e7 : r.1.1 0 7 = μ.1 0 7 := (a3 7 (by decide)).trans (by rw [e1]; exact zsi_nj (by decide))
  have e9 : r.1.1 0 9 = s0 := (a3 9 (by decide)).trans (by rw [e1]; exact zsi_ej)
  refine ⟨⟨(a3 5 (by decide)).trans m1.1, (a3 6 (by decide)).trans m1.2.1, fun j hj => by rw [a2]; exact m1.2.2 j hj⟩, ?_, ?_, ?_⟩
  · rw [e8]; exact hh
  · rw [e8, e7]; exact hp
  · rw [e8, e9]; exact hs
theorem d_385 {μ : zSt} (hm : zMid z bk B μ) (hh : zIsH z B (μ.1 0 8)) (hp : zIsP z B (μ.1 0 8) (μ.1 0 7)) (hs : 0 ≤ (μ.1 0 8).toInt → μ.1 0 9 &&& 65535 = zSum z (μ.1 0 8) B) : zpc (fX12_load_385 μ ) (zFin z bk B) := by
  unfold fX12_load_385
  have c0 : (0 : Int32).toInt = 0 := rfl
  refine zpc_if (fun q => d_404 hm hh hp hs) (fun q => d_404 hm hh hp (fun r => absurd (Int32.le_iff_toInt_le.mpr (by rw [c0]; exact r)) q))
/-- the second loop, where the bytes from 32768 on count -/
theorem d_337 {x5 : Int32} {S : Int32} (hl : 13 < x5 ∨ ¬ 3 ≤ x5) (hz : zr 0 262144 z) : ∀ (n : Nat) (μ : zSt) (x6 : Int32), zr 32768 262144 x6 → zMid z bk B μ → zIsH z B (μ.1 0 8) → zIsP z B (μ.1 0 8) (μ.1 0 7) → zSm B (z.toNatClampNeg - x6.toNatClampNeg) x6.toNatClampNeg (μ.1 0 9) = S → (0 ≤ (μ.1 0 8).toInt → S &&& 65535 = zSum z (μ.1 0 8) B) → zpc (fX12_load_337 n μ x5 x6) (zFin z bk B) := by
  intro n
  induction n with
  | zero => intro μ x6 _ _ _ _ _ _; exact zpc_none
  | succ n ih =>
    intro μ x6 h6 hm hh hp hS hs
    show zpc (fX12_load_337_body (fX12_load_337 n) μ x5 x6) _
    unfold fX12_load_337_body
    have b6 := h6.1
    have k6 := z_clamp (x := x6) (by omega)
    have kz := z_clamp hz.1
    have z2 := hz.2
    have g5 : zgi μ 0 5 = z := hm.1
    rw [g5]
    have go : ¬ z ≤ x6 → zpc (fX12_load_359 (fX12_load_337 n) μ x5 x6) (zFin z bk B) := fun q => by
      have q1 := Int32.lt_iff_toInt_lt.mp (z_nle q)
      unfold fX12_load_359
      refine zpc_ck (zpc_bv (fun μ1 e1 => zpc_bv (fun v e => ?_)))
      subst e
      have c1 : (1 : Int32).toInt = 1 := rfl
      have t : (x6 + 1).toInt = x6.toInt + (1 : Int32).toInt := z_tadd h6 (zr_c (lo := 1) (hi := 1) (by decide)) (by decide)
      have k7 := z_clamp (x := x6 + 1) (by omega)
      have e8 : μ1.1 0 8 = μ.1 0 8 := by rw [e1]; exact zsi_nj (by decide)
      have e7 : μ1.1 0 7 = μ.1 0 7 := by rw [e1]; exact zsi_nj (by decide)
      have e9 : μ1.1 0 9 = μ.1 0 9 + B x6.toNatClampNeg := by
        rw [e1, zsi_ej, ← hm.2.2 x6.toNatClampNeg (by omega)]
        rfl
      refine ih μ1 (x6 + 1) ⟨by omega, by omega⟩ (hm.w e1 (by decide)) (by rw [e8]; exact hh) (by rw [e8, e7]; exact hp) ?_ (by rw [e8]; exact hs)
      rw [← hS, e9, show (x6 + 1).toNatClampNeg = x6.toNatClampNeg + 1 by omega, show z.toNatClampNeg - x6.toNatClampNeg = (z.toNatClampNeg - (x6.toNatClampNeg + 1)) + 1 by omega]
      rfl
    have stop : z ≤ x6 → zpc (fX12_load_385 μ ) (zFin z bk B) := fun q => by
      have q1 := Int32.le_iff_toInt_le.mp q
      rw [show z.toNatClampNeg - x6.toNatClampNeg = 0 by omega] at hS
      have hS : μ.1 0 9 = S := hS
      exact d_385 hm hh hp (fun r => by rw [hS]; exact hs r)
    refine zpc_if (fun q => stop q) (fun q => zpc_if (fun _ => go q) (fun q1 => zpc_if (fun q2 => ?_) (fun _ => go q)))
    rcases hl with a | a
    · exact absurd a q1
    · exact absurd q2 a
theorem d_337s {x5 : Int32} (h1 : ¬ 13 < x5) (h2 : 3 ≤ x5) {n : Nat} {μ : zSt} (hm : zMid z bk B μ) (hh : zIsH z B (μ.1 0 8)) (hp : zIsP z B (μ.1 0 8) (μ.1 0 7)) (hs : 0 ≤ (μ.1 0 8).toInt → μ.1 0 9 &&& 65535 = zSum z (μ.1 0 8) B) : zpc (fX12_load_337 n μ x5 32768) (zFin z bk B) := by
  cases n with
  | zero => exact zpc_none
  | succ n =>
    show zpc (fX12_load_337_body (fX12_load_337 n) μ x5 32768) _
    unfold fX12_load_337_body
    exact zpc_if (fun _ => d_385 hm hh hp hs) (fun _ => zpc_if (fun q => absurd q h1) (fun _ => zpc_if (fun _ => d_385 hm hh hp hs) (fun q => absurd h2 q)))
/-- the first loop -/
theorem d_298 {x5 h : Int32} (hz : zr 0 262144 z) (hhz : h.toInt < z.toInt) (hc : 0 ≤ h.toInt → x5 = B (h.toNatClampNeg + 15) &&& 15) : ∀ (n : Nat) (μ : zSt) (x6 : Int32), μ.1 0 8 = h → 0 ≤ x6.toInt → x6.toInt ≤ 262144 → zMid z bk B μ → zIsH z B h → zIsP z B h (μ.1 0 7) → (0 ≤ h.toInt → x6.toInt ≤ h.toInt ∧ zSm B (h.toNatClampNeg - x6.toNatClampNeg) x6.toNatClampNeg (μ.1 0 9) = zSm B h.toNatClampNeg 0 0) → zpc (fX12_load_298 n μ x5 x6) (zFin z bk B) := by
  intro n
  induction n with
  | zero => intro μ x6 _ _ _ _ _ _ _; exact zpc_none
  | succ n ih =>
    intro μ x6 e8 h0 h6 hm hh hp hS
    show zpc (fX12_load_298_body (fX12_load_298 n) μ x5 x6) _
    unfold fX12_load_298_body
    have k6 := z_clamp h0
    have z2 := hz.2
    rw [show zgi μ 0 8 = h from e8]
    refine zpc_if (fun q => ?_) (fun q => ?_)
    · have q1 := Int32.le_iff_toInt_le.mp q
      have hs9 : 0 ≤ h.toInt → μ.1 0 9 = zSm B h.toNatClampNeg 0 0 := fun r => by
        obtain ⟨s1, s2⟩ := hS r
        have kh := z_clamp r
        rw [show h.toNatClampNeg - x6.toNatClampNeg = 0 by omega] at s2
        exact s2
      by_cases q2 : 13 < x5
      · refine d_337 (S := zSm B (z.toNatClampNeg - 32768) 32768 (μ.1 0 9)) (Or.inl q2) hz zfuel μ 32768 (zr_c (by decide)) hm (by rw [e8]; exact hh) (by rw [e8]; exact hp) rfl (fun r => ?_)
        rw [e8] at r ⊢
        unfold zSum
        rw [← hc r, if_pos q2, hs9 r]
      · by_cases q3 : 3 ≤ x5
        · refine d_337s q2 q3 hm (by rw [e8]; exact hh) (by rw [e8]; exact hp) (fun r => ?_)
          rw [e8] at r ⊢
          unfold zSum
          rw [← hc r, if_neg q2, if_pos q3, hs9 r]
        · refine d_337 (S := zSm B (z.toNatClampNeg - 32768) 32768 (μ.1 0 9)) (Or.inr q3) hz zfuel μ 32768 (zr_c (by decide)) hm (by rw [e8]; exact hh) (by rw [e8]; exact hp) rfl (fun r => ?_)
          rw [e8] at r ⊢
          unfold zSum
          rw [← hc r, if_neg q2, if_neg q3, hs9 r]
    · have q1 := Int32.lt_iff_toInt_lt.mp (z_nle q)
      refine zpc_ck (zpc_bv (fun μ1 e1 => zpc_bv (fun v e => ?_)))
      subst e
      have c1 : (1 : Int32).toInt = 1 := rfl
      have t : (x6 + 1).toInt = x6.toInt + (1 : Int32).toInt := z_tadd (a := 0) (b := 262144) ⟨h0, h6⟩ (zr_c (lo := 1) (hi := 1) (by decide)) (by decide)
      have k7 := z_clamp (x := x6 + 1) (by omega)
      have f8 : μ1.1 0 8 = h := by rw [e1, zsi_nj (by decide)]; exact e8
      have f7 : μ1.1 0 7 = μ.1 0 7 := by rw [e1]; exact zsi_nj (by decide)
      have f9 : μ1.1 0 9 = μ.1 0 9 + B x6.toNatClampNeg := by
        rw [e1, zsi_ej, ← hm.2.2 x6.toNatClampNeg (by omega)]
        rfl
      refine ih μ1 (x6 + 1) f8 (by omega) (by omega) (hm.w e1 (by decide)) hh (by rw [f7]; exact hp) (fun r => ⟨by omega, ?_⟩)
      obtain ⟨s1, s2⟩ := hS r
      have kh := z_clamp r
      rw [← s2, f9, show (x6 + 1).toNatClampNeg = x6.toNatClampNeg + 1 by omega, show h.toNatClampNeg - x6.toNatClampNeg = (h.toNatClampNeg - (x6.toNatClampNeg + 1)) + 1 by omega]
      rfl
theorem zIsH.lt {h : Int32} (a : zIsH z B h) (hz : 0 ≤ z.toInt) : h.toInt < z.toInt ∧ (0 ≤ h.toInt → h.toInt + 16 ≤ z.toInt) := by
  rcases a with ⟨a1, e⟩ | ⟨_, a1, e⟩ | ⟨_, _, a1, e⟩ | ⟨_, _, _, e⟩
  · have := a1.1; rw [e, show (32752 : Int32).toInt = 32752 from rfl]; omega
  · have := a1.1; rw [e, show (16368 : Int32).toInt = 16368 from rfl]; omega
  · have := a1.1; rw [e, show (8176 : Int32).toInt = 8176 from rfl]; omega
  · rw [e, show (-1 : Int32).toInt = -1 from rfl]; omega
theorem d_259 {μ : zSt} {s0 : Int32} (hz : zr 0 262144 z) (hm : zMid z bk B μ) (hh : zIsH z B (μ.1 0 8)) (hp : zIsP z B (μ.1 0 8) s0) : zpc (fX12_load_259 μ s0) (zFin z bk B) := by
  unfold fX12_load_259 fX12_load_293
  refine zpc_bv (fun μ1 e1 => zpc_bv (fun μ2 e2 => ?_))
  have m2 := (hm.w e1 (by decide)).w e2 (by decide)
  have f8 : μ2.1 0 8 = μ.1 0 8 := by rw [e2, zsi_nj (by decide), e1]; exact zsi_nj (by decide)
  have f7 : μ2.1 0 7 = s0 := by rw [e2, zsi_nj (by decide), e1]; exact zsi_ej
  have f9 : μ2.1 0 9 = 0 := by rw [e2]; exact zsi_ej
  obtain ⟨l1, l2⟩ := hh.lt hz.1
  have z2 := hz.2
  have c0 : (0 : Int32).toInt = 0 := rfl
  rw [show zgi μ2 0 8 = μ.1 0 8 from f8]
  refine zpc_if (fun q => zpc_ck ?_) (fun q => ?_)
  · have q1 := Int32.le_iff_toInt_le.mp q
    rw [c0] at q1
    have l3 := l2 q1
    have t : (μ.1 0 8 + 15).toInt = (μ.1 0 8).toInt + (15 : Int32).toInt := z_tadd (a := 0) (b := 262144) ⟨q1, by omega⟩ (zr_c (lo := 15) (hi := 15) (by decide)) (by decide)
    have c5 : (15 : Int32).toInt = 15 := rfl
    have k := z_clamp q1
    have k1 := z_clamp (x := μ.1 0 8 + 15) (by omega)
    refine d_298 (h := μ.1 0 8) hz l1 (fun _ => ?_) zfuel μ2 0 f8 (by decide) (by decide) m2 hh (by rw [f7]; exact hp) (fun _ => ⟨q1, ?_⟩)
    · show μ2.1 2 (μ.1 0 8 + 15).toNatClampNeg &&& 15 = _
      rw [z_and15, m2.2.2 _ (by omega), show (μ.1 0 8 + 15).toNatClampNeg = (μ.1 0 8).toNatClampNeg + 15 by omega]
    · rw [f9]
      rfl
  · refine d_298 (h := μ.1 0 8) hz l1 (fun r => absurd (Int32.le_iff_toInt_le.mpr (by rw [c0]; exact r)) q) zfuel μ2 0 f8 (by decide) (by decide) m2 hh (by rw [f7]; exact hp) (fun r => absurd (Int32.le_iff_toInt_le.mpr (by rw [c0]; exact r)) q)
end ZLOAD
end ZJN6
section ZJN7
/-! words, paging, header in the reference -/
theorem z_word {x y : Int32} (hx : zr 0 255 x) (hy : zr 0 255 y) : (y <<< ((8 : Int32) &&& 31)) ||| x = x + 256 * y := by
  have x0 := hx.1
  have x1 := hx.2
  have y0 := hy.1
  have y1 := hy.2
  have nx := z_tN x0
  have ny := z_tN y0
  have e1 : (y <<< ((8 : Int32) &&& 31)).toBitVec = y.toBitVec <<< (((8 : Int32) &&& 31).toBitVec.smod 32).toNat := rfl
  have e2 : (y <<< ((8 : Int32) &&& 31)).toBitVec.toNat = 2 ^ 8 * y.toBitVec.toNat := by
    rw [e1, show (((8 : Int32) &&& 31).toBitVec.smod 32).toNat = 8 from rfl, BitVec.toNat_shiftLeft, Nat.shiftLeft_eq, Nat.mul_comm, Nat.mod_eq_of_lt (by omega)]
  have e3 : ((y <<< ((8 : Int32) &&& 31)) ||| x).toBitVec.toNat = 2 ^ 8 * y.toBitVec.toNat + x.toBitVec.toNat := by
    rw [Int32.toBitVec_or, BitVec.toNat_or, e2, Nat.two_pow_add_eq_or_of_lt (by omega)]
  have e4 := z_Nt e3 (by omega)
  have t1 := z_tmul (x := (256 : Int32)) (y := y) (zr_c (lo := 256) (hi := 256) (by decide)) hy (by decide)
  have r1 := zr_mul (lo := 0) (hi := 65280) (x := (256 : Int32)) (y := y) (zr_c (lo := 256) (hi := 256) (by decide)) hy (by decide)
  have t2 := z_tadd hx r1 (by decide)
  have c : (256 : Int32).toInt = 256 := rfl
  refine Int32.toInt_inj.mp ?_
  rw [e4, t2, t1, c]
  omega
theorem z_byte (x : Int32) : zr 0 255 (x &&& 255) := zr_andr (lo := 0) (hi := 255) (zr_c (lo := 255) (hi := 255) (by decide)) (by decide)
theorem p_bytesAt {μ : zSt} {x : Int32} (h : zr 0 262142 x) : zpc (fX12_bytesAt μ x 2) (fun r => r.1 = μ ∧ r.2 = zWd (zMb μ) x.toNatClampNeg) := by
  unfold fX12_bytesAt
  obtain ⟨m, hm⟩ : ∃ m, zfuel = m + 1 + 1 + 1 := ⟨1999997, rfl⟩
  refine zpc_bv (fun v3 e3 => ?_)
  subst e3
  rw [hm]
  show zpc (fX12_bytesAt_7_body (fX12_bytesAt_7 (m + 1 + 1)) μ x 0 (2 - 1)) _
  unfold fX12_bytesAt_7_body
  refine zpc_if (fun q => absurd q (by decide)) (fun _ => zpc_ck (zpc_bv (fun v1 e1 => zpc_bv (fun v2 e2 => ?_))))
  subst e2
  show zpc (fX12_bytesAt_7_body (fX12_bytesAt_7 (m + 1)) μ x v1 (2 - 1 + (-1))) _
  unfold fX12_bytesAt_7_body
  refine zpc_if (fun q => absurd q (by decide)) (fun _ => zpc_ck (zpc_bv (fun w1 f1 => zpc_bv (fun w2 f2 => ?_))))
  subst f2
  show zpc (fX12_bytesAt_7_body (fX12_bytesAt_7 m) μ x w1 (2 - 1 + (-1) + (-1))) _
  unfold fX12_bytesAt_7_body
  refine zpc_if (fun _ => zpc_some ⟨rfl, ?_⟩) (fun q => absurd (by decide) q)
  show w1 = zWd (zMb μ) x.toNatClampNeg
  have h0 := h.1
  have k := z_clamp h0
  have c1 : ((2 : Int32) - 1).toInt = 1 := rfl
  have t : (x + (2 - 1)).toInt = x.toInt + ((2 : Int32) - 1).toInt := z_tadd h (zr_c (lo := 1) (hi := 1) (x := 2 - 1) (by decide)) (by decide)
  have k1 := z_clamp (x := x + (2 - 1)) (by omega)
  have z0 : x + (2 - 1 + (-1)) = x := by rw [show ((2 : Int32) - 1 + (-1)) = 0 by decide, Int32.add_zero]
  have v : v1 = zMb μ (x.toNatClampNeg + 1) := by
    rw [e1, show ((0 : Int32) <<< ((8 : Int32) &&& 31)) = 0 by decide, Int32.zero_or]
    show μ.1 2 (x + (2 - 1)).toNatClampNeg &&& 255 = _
    rw [show (x + (2 - 1)).toNatClampNeg = x.toNatClampNeg + 1 by omega]
    rfl
  rw [f1, z0, v]
  exact z_word (z_byte _) (z_byte _)
theorem zWd_r {b : Nat → Int32} {p : Nat} (h0 : zr 0 255 (b p)) (h1 : zr 0 255 (b (p + 1))) : zr 0 65535 (zWd b p) := zr_add (lo := 0) (hi := 65535) h0 (zr_mul (lo := 0) (hi := 65280) (zr_c (lo := 256) (hi := 256) (by decide)) h1 (by decide)) (by decide)
section ZLOAD2
variable {z bk : Int32} {B : Nat → Int32}
theorem zMid.wd {μ : zSt} (hm : zMid z bk B μ) {p : Nat} (h : (p : Int) + 1 < z.toInt) : zWd (zMb μ) p = zWd B p := by
  unfold zWd zMb
  rw [hm.2.2 p (by omega), hm.2.2 (p + 1) (by omega)]
theorem d_247 {μ : zSt} (hz : zr 0 262144 z) (hm : zMid z bk B μ) (hh : zIsH z B (μ.1 0 8)) (q : 49152 < z) (ne : ¬ zWd B 32742 + zWd B 32744 = 65536) : zpc (fX12_load_247 μ ) (zFin z bk B) := by
  unfold fX12_load_247
  exact zpc_if (fun r => d_259 hz hm hh (Or.inr (Or.inr (Or.inl ⟨q, ne, r, rfl⟩)))) (fun r => d_259 hz hm hh (Or.inr (Or.inr (Or.inr ⟨q, ne, r, rfl⟩))))
theorem d_192 {μ : zSt} (hz : zr 0 262144 z) (hB : ∀ j, zr 0 255 (B j)) (hm : zMid z bk B μ) (hh : zIsH z B (μ.1 0 8)) {s0 : Int32} (h0 : 49152 < z → s0 = zWd B 32742) : zpc (fX12_load_192 μ s0) (zFin z bk B) := by
  unfold fX12_load_192
  have g5 : zgi μ 0 5 = z := hm.1
  have c : (49152 : Int32).toInt = 49152 := rfl
  have c0 : (0 : Int32).toInt = 0 := rfl
  have c6 : (65536 : Int32).toInt = 65536 := rfl
  rw [g5]
  refine zpc_if (fun q => ?_) (fun q => ?_)
  · have nq : ¬ 49152 < z := fun r => by have := Int32.lt_iff_toInt_lt.mp r; have := Int32.le_iff_toInt_le.mp q; omega
    unfold fX12_load_214
    rw [g5]
    exact zpc_if (fun r => absurd r nq) (fun _ => d_259 hz hm hh (Or.inl ⟨nq, rfl⟩))
  · have q1 := Int32.lt_iff_toInt_lt.mp (z_nle q)
    have yq : 49152 < z := Int32.lt_iff_toInt_lt.mpr (by omega)
    refine zpc_bi (p_bytesAt (x := 32744) (zr_c (by decide))) (fun μ1 v p => ?_)
    obtain ⟨p1, p2⟩ := p
    have p1 : μ1 = μ := p1
    subst p1
    have p2 : v = zWd (zMb μ1) 32744 := p2
    rw [hm.wd (by omega)] at p2
    unfold fX12_load_214
    rw [g5, h0 yq, p2]
    have r1 := zWd_r (hB 32742) (hB (32742 + 1))
    have r2 := zWd_r (hB 32744) (hB (32744 + 1))
    have t := z_tadd r1 r2 (by decide)
    refine zpc_if (fun _ => zpc_if (fun r => ?_) (fun r => zpc_if (fun s => ?_) (fun s => d_247 hz hm hh yq s))) (fun r => absurd yq r)
    · refine d_247 hz hm hh yq (fun s => ?_)
      have r3 := Int32.le_iff_toInt_le.mp r
      have r4 := r2.2
      rw [s, c6] at t
      omega
    · exact d_259 hz hm hh (Or.inr (Or.inl ⟨yq, s, rfl⟩))
/-- isHeader -/
theorem p_isH_15 {μ : zSt} {x1 : Int32} (hm : zMid z bk B μ) (h1 : 0 ≤ x1.toInt) (h2 : x1.toInt + 16 ≤ z.toInt) (hz : z.toInt ≤ 262144) : ∀ (n : Nat) (x2 : Int32), zr 0 8 x2 → (∀ i : Nat, (i : Int) < x2.toInt → B (x1.toNatClampNeg + i) = zt0 i) → zpc (fX12_isHeader_15 n μ x1 x2) (fun r => r.1 = μ ∧ ((zHm B x1.toNatClampNeg ∧ r.2 = 1) ∨ (¬ zHm B x1.toNatClampNeg ∧ r.2 = 0))) := by
  intro n
  induction n with
  | zero => intro x2 _ _; exact zpc_none
  | succ n ih =>
    intro x2 h3 hI
    show zpc (fX12_isHeader_15_body (fX12_isHeader_15 n) μ x1 x2) _
    unfold fX12_isHeader_15_body
    have c8 : (8 : Int32).toInt = 8 := rfl
    have b0 := h3.1
    have b8 := h3.2
    have k1 := z_clamp h1
    have k2 := z_clamp b0
    refine zpc_if (fun q => ?_) (fun q => zpc_ck ?_)
    · have q1 := Int32.le_iff_toInt_le.mp q
      have e8 : x2 = 8 := Int32.toInt_inj.mp (by omega)
      unfold fX12_isHeader_114 fX12_isHeader_125
      refine zpc_if (fun _ => zpc_ck (zpc_some ⟨rfl, Or.inl ⟨fun i hi => hI i (by omega), rfl⟩⟩)) (fun r => absurd e8 r)
    · have q1 := Int32.lt_iff_toInt_lt.mp (z_nle q)
      have t : (x1 + x2).toInt = x1.toInt + x2.toInt := z_tadd (a := 0) (b := 262144) (c := 0) (d := 8) ⟨h1, by omega⟩ h3 (by decide)
      have ks := z_clamp (x := x1 + x2) (by omega)
      have by1 : (zgi μ 2 (x1 + x2).toNatClampNeg) &&& 255 = B (x1.toNatClampNeg + x2.toNatClampNeg) := by
        rw [← hm.2.2 _ (by omega), show (x1 + x2).toNatClampNeg = x1.toNatClampNeg + x2.toNatClampNeg by omega]
        rfl
      rw [by1]
      have go : ∀ s0, s0 = zt0 x2.toNatClampNeg → zpc (fX12_isHeader_105 (fX12_isHeader_15 n) μ x1 x2 s0 (B (x1.toNatClampNeg + x2.toNatClampNeg))) (fun r => r.1 = μ ∧ ((zHm B x1.toNatClampNeg ∧ r.2 = 1) ∨ (¬ zHm B x1.toNatClampNeg ∧ r.2 = 0))) := fun s0 e0 => by
        unfold fX12_isHeader_105 fX12_isHeader_114 fX12_isHeader_125
        rw [e0]
        refine zpc_if (fun r => zpc_bv (fun v e => ?_)) (fun r => ?_)
        · subst e
          have c1 : (1 : Int32).toInt = 1 := rfl
          have t2 : (x2 + 1).toInt = x2.toInt + (1 : Int32).toInt := z_tadd h3 (zr_c (lo := 1) (hi := 1) (by decide)) (by decide)
          refine ih (x2 + 1) ⟨by omega, by omega⟩ (fun i hi => ?_)
          by_cases qi : i = x2.toNatClampNeg
          · rw [qi]; exact r
          · exact hI i (by omega)
        · refine zpc_if (fun s => ?_) (fun _ => zpc_ck (zpc_some ⟨rfl, Or.inr ⟨fun m => r (m _ (by omega)), rfl⟩⟩))
          rw [s] at q1
          exact absurd q1 (by decide)
      have lit : ∀ m : Nat, x2 = Int32.ofNat m → m < 8 → x2.toNatClampNeg = m := fun m e hm => by
        rw [e]
        have k : ∀ i : Fin 8, (Int32.ofNat i.val).toNatClampNeg = i.val := by decide
        exact k ⟨m, hm⟩
      refine zpc_if (fun r => go _ (by rw [lit 0 r (by decide)]; rfl)) (fun r0 => zpc_if (fun r => go _ (by rw [lit 1 r (by decide)]; rfl)) (fun r1 => zpc_if (fun r => go _ (by rw [lit 2 r (by decide)]; rfl)) (fun r2 => zpc_if (fun r => go _ (by rw [lit 3 r (by decide)]; rfl)) (fun r3 => zpc_if (fun r => go _ (by rw [lit 4 r (by decide)]; rfl)) (fun r4 => zpc_if (fun r => go _ (by rw [lit 5 r (by decide)]; rfl)) (fun r5 => zpc_if (fun r => go _ (by rw [lit 6 r (by decide)]; rfl)) (fun r6 => ?_)))))))
      have e7 : x2 = Int32.ofNat 7 := by
        obtain ⟨i, hi⟩ : ∃ i : Nat, x2.toInt = i := ⟨x2.toInt.toNat, by omega⟩
        have e := z_ofN hi
        have n0 : ∀ m : Nat, ¬ x2 = Int32.ofNat m → ¬ i = m := fun m h r => h (by rw [e, r])
        have a0 := n0 0 r0
        have a1 := n0 1 r1
        have a2 := n0 2 r2
        have a3 := n0 3 r3
        have a4 := n0 4 r4
        have a5 := n0 5 r5
        have a6 := n0 6 r6
        rw [e, show i = 7 by omega]
      exact go _ (by rw [lit 7 e7 (by decide)]; rfl)
theorem p_isH {μ : zSt} {x1 : Int32} (hm : zMid z bk B μ) (h1 : zr 0 32752 x1) (hz : zr 0 262144 z) : zpc (fX12_isHeader μ x1) (fun r => r.1 = μ ∧ ((zHp z B x1.toNatClampNeg ∧ r.2 = 1) ∨ (¬ zHp z B x1.toNatClampNeg ∧ r.2 = 0))) := by
  unfold fX12_isHeader
  have c6 : (16 : Int32).toInt = 16 := rfl
  have t : (x1 + 16).toInt = x1.toInt + (16 : Int32).toInt := z_tadd h1 (zr_c (lo := 16) (hi := 16) (by decide)) (by decide)
  have k1 := z_clamp h1.1
  rw [show zgi μ 0 5 = z from hm.1]
  refine zpc_if (fun q => ?_) (fun q => ?_)
  · have q1 := Int32.le_iff_toInt_le.mp q
    refine zpc_mono (p_isH_15 hm h1.1 (by omega) hz.2 zfuel 0 (zr_c (by decide)) (fun i hi => ?_)) (fun r p => ⟨p.1, ?_⟩)
    · have : (0 : Int32).toInt = 0 := rfl
      exfalso
      omega
    · rcases p.2 with ⟨a, b⟩ | ⟨a, b⟩
      · exact Or.inl ⟨⟨by omega, a⟩, b⟩
      · exact Or.inr ⟨fun m => a m.2, b⟩
  · have q1 := Int32.lt_iff_toInt_lt.mp (z_nle q)
    exact zpc_ck (zpc_some ⟨rfl, Or.inr ⟨fun m => by have := m.1; omega, rfl⟩⟩)
/-- behind the three places -/
theorem d_142e {μ : zSt} (hz : zr 0 262144 z) (hB : ∀ j, zr 0 255 (B j)) (hm : zMid z bk B μ) (hh : zIsH z B (μ.1 0 8)) {n : Nat} : zpc (fX12_load_142 n μ (2 * 32752 + 16)) (zFin z bk B) := by
  cases n with
  | zero => exact zpc_none
  | succ n =>
    show zpc (fX12_load_142_body (fX12_load_142 n) μ (2 * 32752 + 16)) _
    unfold fX12_load_142_body
    have g5 : zgi μ 0 5 = z := hm.1
    have c : (49152 : Int32).toInt = 49152 := rfl
    rw [g5]
    refine zpc_if (fun _ => zpc_if (fun q => ?_) (fun q => ?_)) (fun q => absurd (by decide) q)
    · refine d_192 hz hB hm hh (fun r => ?_)
      have := Int32.lt_iff_toInt_lt.mp r
      have := Int32.le_iff_toInt_le.mp q
      exfalso
      omega
    · have q1 := Int32.lt_iff_toInt_lt.mp (z_nle q)
      refine zpc_bi (p_bytesAt (x := 32742) (zr_c (by decide))) (fun μ1 v p => ?_)
      obtain ⟨p1, p2⟩ := p
      have p1 : μ1 = μ := p1
      subst p1
      have p2 : v = zWd (zMb μ1) 32742 := p2
      rw [hm.wd (by omega)] at p2
      exact d_192 hz hB hm hh (fun _ => p2)
/-- one place -/
theorem d_142s {μ : zSt} {x3 : Int32} (hm : zMid z bk B μ) (h3 : zr 0 32752 x3) (hz : zr 0 262144 z) (nl : ¬ 32768 ≤ x3) {n : Nat} {Q : zSt × Int32 → Prop} (k : ∀ μ1, zMid z bk B μ1 → ((zHp z B x3.toNatClampNeg ∧ μ1.1 0 8 = x3) ∨ (¬ zHp z B x3.toNatClampNeg ∧ μ1.1 0 8 = μ.1 0 8)) → zpc (fX12_load_142 n μ1 (2 * x3 + 16)) Q) : zpc (fX12_load_142 (n + 1) μ x3) Q := by
  show zpc (fX12_load_142_body (fX12_load_142 n) μ x3) _
  unfold fX12_load_142_body fX12_load_161
  refine zpc_if (fun q => absurd q nl) (fun _ => zpc_bi (p_isH hm h3 hz) (fun μ1 v p => ?_))
  obtain ⟨p1, p2⟩ := p
  have p1 : μ1 = μ := p1
  subst p1
  refine zpc_if (fun q => zpc_bv (fun w e => ?_)) (fun q => zpc_bv (fun μ2 e2 => zpc_bv (fun w e => ?_)))
  · subst e
    rcases p2 with ⟨_, b⟩ | ⟨a, b⟩
    · have b : v = 1 := b
      rw [b] at q
      exact absurd q (by decide)
    · exact k _ hm (Or.inr ⟨a, rfl⟩)
  · subst e
    rcases p2 with ⟨a, b⟩ | ⟨a, b⟩
    · exact k _ (hm.w e2 (by decide)) (Or.inl ⟨a, by rw [e2]; exact zsi_ej⟩)
    · exact absurd b q
theorem d_142 {μ : zSt} (hz : zr 0 262144 z) (hB : ∀ j, zr 0 255 (B j)) (hm : zMid z bk B μ) (h8 : μ.1 0 8 = -1) : zpc (fX12_load_142 zfuel μ 8176) (zFin z bk B) := by
  obtain ⟨m, hf⟩ : ∃ m, zfuel = m + 1 + 1 + 1 := ⟨1999997, rfl⟩
  rw [hf]
  refine d_142s hm (zr_c (by decide)) hz (by decide) (fun μ1 m1 a1 => ?_)
  rw [show (2 : Int32) * 8176 + 16 = 16368 by decide]
  refine d_142s m1 (zr_c (by decide)) hz (by decide) (fun μ2 m2 a2 => ?_)
  rw [show (2 : Int32) * 16368 + 16 = 32752 by decide]
  refine d_142s m2 (zr_c (by decide)) hz (by decide) (fun μ3 m3 a3 => ?_)
  refine d_142e hz hB m3 ?_
  rcases a3 with ⟨b3, e3⟩ | ⟨b3, e3⟩
  · exact Or.inl ⟨b3, e3⟩
  · rcases a2 with ⟨b2, e2⟩ | ⟨b2, e2⟩
    · exact Or.inr (Or.inl ⟨b3, b2, e3.trans e2⟩)
    · rcases a1 with ⟨b1, e1⟩ | ⟨b1, e1⟩
      · exact Or.inr (Or.inr (Or.inl ⟨b3, b2, b1, (e3.trans e2).trans e1⟩))
      · exact Or.inr (Or.inr (Or.inr ⟨b3, b2, b1, ((e3.trans e2).trans e1).trans h8⟩))
/-- the copy -/
theorem d_89 {T : Nat → Int32} {x1 : Int32} (hz : zr 0 262144 z) (hB : ∀ j, zr 0 255 (B j)) (h1 : zr 0 512 x1) (hT : ∀ j : Nat, (j : Int) < z.toInt → T (x1.toNatClampNeg + j) &&& 255 = B j) (hk : z.toInt ≤ (16384 * bk).toInt) : ∀ (n : Nat) (μ : zSt) (x3 : Int32), zr 0 262144 x3 → μ.1 1 = T → μ.1 0 5 = z → μ.1 0 6 = bk → (∀ j : Nat, (j : Int) < x3.toInt → (j : Int) < z.toInt → μ.1 2 j &&& 255 = B j) → zpc (fX12_load_89 n μ x1 x3) (zFin z bk B) := by
  intro n
  induction n with
  | zero => intro μ x3 _ _ _ _ _; exact zpc_none
  | succ n ih =>
    intro μ x3 h3 e1 e5 e6 hc
    show zpc (fX12_load_89_body (fX12_load_89 n) μ x1 x3) _
    unfold fX12_load_89_body fX12_load_126
    have b0 := h3.1
    have b9 := h3.2
    have z2 := hz.2
    have k3 := z_clamp b0
    rw [show zgi μ 0 6 = bk from e6, show zgi μ 0 5 = z from e5]
    refine zpc_if (fun q => zpc_bv (fun μ1 m1 => ?_)) (fun q => ?_)
    · have q1 := Int32.le_iff_toInt_le.mp q
      refine d_142 hz hB ⟨?_, ?_, fun j hj => ?_⟩ ?_
      · rw [m1, zsi_nj (by decide)]; exact e5
      · rw [m1, zsi_nj (by decide)]; exact e6
      · rw [m1, zsi_ne (by decide)]; exact hc j (by omega) hj
      · rw [m1]; exact zsi_ej
    · have c1 : (1 : Int32).toInt = 1 := rfl
      have go : ∀ (y : Int32) (μ1 : zSt), x3.toInt < 262144 → μ1 = zsi μ 2 x3.toNatClampNeg (vp_nar .byte y) → (x3.toInt < z.toInt → y &&& 255 = B x3.toNatClampNeg) → zpc (fX12_load_89 n μ1 x1 (x3 + 1)) (zFin z bk B) := fun y μ1 hx m1 hy => by
        have t : (x3 + 1).toInt = x3.toInt + (1 : Int32).toInt := z_tadd h3 (zr_c (lo := 1) (hi := 1) (by decide)) (by decide)
        refine ih μ1 (x3 + 1) ⟨by omega, by omega⟩ ?_ ?_ ?_ (fun j hj hjz => ?_)
        · rw [m1, zsi_ne (by decide)]; exact e1
        · rw [m1, zsi_ne (by decide)]; exact e5
        · rw [m1, zsi_ne (by decide)]; exact e6
        · rw [m1]
          by_cases qj : j = x3.toNatClampNeg
          · rw [qj, zsi_ej, z_nar]
            exact hy (by omega)
          · rw [zsi_nj qj]
            exact hc j (by omega) hjz
      have inr : ∀ {w : Option (zSt × Int32)} {Q : zSt × Int32 → Prop}, (x3.toInt < 262144 → zpc w Q) → zpc (zck (zin x3 262144) w) Q := fun {w Q} h => by
        by_cases r : x3.toInt < 262144
        · exact zpc_ck (h r)
        · have e : zin x3 262144 = false := by
            have l : 262144 ≤ x3.toNatClampNeg := by omega
            show (!(decide (x3 < 0) || decide (262144 ≤ x3.toNatClampNeg))) = false
            rw [decide_eq_true l, Bool.or_true]
            rfl
          rw [e]
          exact zpc_none
      refine zpc_if (fun r => inr (fun hx => zpc_bv (fun μ1 m1 => zpc_bv (fun v e => ?_)))) (fun r => zpc_ck (inr (fun hx => zpc_bv (fun μ1 m1 => zpc_bv (fun v e => ?_)))))
      · subst e
        have r1 := Int32.le_iff_toInt_le.mp r
        exact go _ μ1 hx m1 (fun h => by exfalso; omega)
      · subst e
        have r1 := Int32.lt_iff_toInt_lt.mp (z_nle r)
        have t : (x1 + x3).toInt = x1.toInt + x3.toInt := z_tadd h1 h3 (by decide)
        have b1 := h1.1
        have k1 := z_clamp b1
        have ks := z_clamp (x := x1 + x3) (by omega)
        refine go _ μ1 hx m1 (fun h => ?_)
        show μ.1 1 (x1 + x3).toNatClampNeg &&& 255 = _
        rw [e1, show (x1 + x3).toNatClampNeg = x1.toNatClampNeg + x3.toNatClampNeg by omega]
        exact hT _ (by omega)
end ZLOAD2
end ZJN7
section ZJN8
/-! load, both sides -/
noncomputable def zBk (z : Int32) : Int32 := (z + 16383) / 16384
theorem z_bank {z : Int32} (h : zr 8192 262144 z) : z.toInt ≤ (16384 * zBk z).toInt ∧ ((z + 16384) - 1) / 16384 = zBk z := by
  have c3 : (16383 : Int32).toInt = 16383 := rfl
  have c4 : (16384 : Int32).toInt = 16384 := rfl
  have c1 : (1 : Int32).toInt = 1 := rfl
  have r3 : zr 16383 16383 (16383 : Int32) := zr_c (by decide)
  have r4 : zr 16384 16384 (16384 : Int32) := zr_c (by decide)
  have r1 : zr 1 1 (1 : Int32) := zr_c (by decide)
  have t1 := z_tadd h r3 (by decide)
  have q1 := zr_add (lo := 24575) (hi := 278527) h r3 (by decide)
  have d1 := z_tdiv (y := (16384 : Int32)) 16384 rfl q1 (by decide)
  have qd : zr 1 16 (zBk z) := zr_div (lo := 1) (hi := 16) 16384 (by decide) q1 (by decide)
  have m1 := z_tmul r4 qd (by decide)
  have t2 := z_tadd h r4 (by decide)
  have q2 := zr_add (lo := 24576) (hi := 278528) h r4 (by decide)
  have t3 := z_tsub q2 r1 (by decide)
  have e : (z + 16384) - 1 = z + 16383 := Int32.toInt_inj.mp (by rw [t3, t2, t1, c3, c4, c1]; omega)
  refine ⟨?_, by rw [e]; rfl⟩
  have d2 : (zBk z).toInt = (z + 16383).toInt / 16384 := d1
  rw [m1, d2, t1, c4, c3]
  omega
/-- the class's take of the tape -/
noncomputable def zTake (σ : zSt) (s0 : Int32) (r : zSt × Int32) : Prop := (¬ r.2 = 0 ∧ (∀ j, ¬ j = 2 → r.1.1 1 j = σ.1 1 j) ∧ ∀ w, r.1.1 (ztp w) = σ.1 (ztp w)) ∨ (r.2 = 0 ∧ (r.1.1 1 0 = σ.1 1 1 ∧ r.1.1 1 1 = σ.1 1 0 ∧ r.1.1 1 3 = s0 ∧ r.1.1 1 4 = zgi σ 1 2 - s0 ∧ r.1.1 1 5 = zBk (zgi σ 1 2 - s0)) ∧ (∀ w, r.1.1 (ztp w) = σ.1 (ztp w)) ∧ zIsH (zgi σ 1 2 - s0) (fun j => σ.1 (ztp (σ.1 1 0)) (s0.toNatClampNeg + j)) (r.1.1 1 7) ∧ zIsP (zgi σ 1 2 - s0) (fun j => σ.1 (ztp (σ.1 1 0)) (s0.toNatClampNeg + j)) (r.1.1 1 7) (r.1.1 1 6) ∧ zr 8192 262144 (zgi σ 1 2 - s0))
theorem p_take21 {σ : zSt} {s0 : Int32} (hr : zr 0 262656 (zgi σ 1 2)) (h0 : zr 0 512 s0) : zpc (fX2_takeTape_21 σ s0) (zTake σ s0) := by
  unfold fX2_takeTape_21
  refine zpc_bv (fun v1 e1 => zpc_bv (fun σ2 e2 => ?_))
  have c8 : (8192 : Int32).toInt = 8192 := rfl
  have rv : zr (-512) 262656 v1 := by rw [e1]; exact zr_sub (lo := -512) (hi := 262656) hr h0 (by decide)
  have k2 : ∀ j, ¬ j = 2 → σ2.1 1 j = σ.1 1 j := fun j hj => by rw [e2]; exact zsi_nj hj
  have w2 : ∀ w, σ2.1 (ztp w) = σ.1 (ztp w) := fun w => by rw [e2]; exact zsi_ne (fun e => z_tp1 w e.symm)
  refine zpc_if (fun q5 => zpc_ck (zpc_if (fun q7 => ?_) (fun q7 => zpc_some (Or.inl ⟨(by decide : ¬ (2 : Int32) = 0), k2, w2⟩)))) (fun q5 => zpc_some (Or.inl ⟨(by decide : ¬ (1 : Int32) = 0), k2, w2⟩))
  have h6 := zc_ler (8192) q5 (zr_c (lo := 8192) (hi := 8192) (by decide)) rv (by decide)
  have h8 := zc_eql (0) (0) q7 (zr_rem (lo := 0) (hi := 8191) 8192 (by decide) h6 (by decide)) (zr_c (lo := 0) (hi := 0) (by decide)) (by decide)
  have h9 := z_m8 h6 h8
  refine zpc_bv (fun σ3 e3 => zpc_bv (fun σ4 e4 => zpc_bv (fun σ5 e5 => zpc_bv (fun σ6 e6 => zpc_ck (zpc_bv (fun σ7 e7 => ?_))))))
  have w7 : ∀ w, σ7.1 (ztp w) = σ.1 (ztp w) := fun w => by
    have n : ¬ ztp w = 1 := fun e => z_tp1 w e.symm
    rw [e7, zsi_ne n, e6, zsi_ne n, e5, zsi_ne n, e4, zsi_ne n, e3, zsi_ne n]
    exact w2 w
  have a1 : σ7.1 1 1 = σ.1 1 0 := by
    rw [e7, zsi_nj (by decide), e6, zsi_nj (by decide), e5, zsi_nj (by decide), e4, zsi_nj (by decide), e3, zsi_ej]
    exact k2 0 (by decide)
  have a0 : σ7.1 1 0 = σ.1 1 1 := by
    rw [e7, zsi_nj (by decide), e6, zsi_nj (by decide), e5, zsi_nj (by decide), e4, zsi_ej]
    exact k2 1 (by decide)
  have a3 : σ7.1 1 3 = s0 := by rw [e7, zsi_nj (by decide), e6, zsi_nj (by decide), e5, zsi_ej]
  have a4 : σ7.1 1 4 = v1 := by rw [e7, zsi_nj (by decide), e6, zsi_ej]
  have a5 : σ7.1 1 5 = zBk v1 := by rw [e7, zsi_ej]; exact (z_bank h9).2
  have cb : zCb σ7 = fun j => σ.1 (ztp (σ.1 1 0)) (s0.toNatClampNeg + j) := by
    funext j
    unfold zCb
    rw [a1, a3, w7]
  have hb7 : zr 0 512 (σ7.1 1 3) := by rw [a3]; exact h0
  have hz7 : zr 0 262144 (σ7.1 1 4) := by rw [a4]; exact zr_w h9 (by decide)
  refine zpc_bi (p_header hb7 hz7) (fun σ8 v9 p => ?_)
  obtain ⟨p1, p2⟩ := p
  have p1 : σ8 = σ7 := p1
  subst p1
  have p2 : zIsH (σ8.1 1 4) (zCb σ8) v9 := p2
  rw [a4, cb] at p2
  refine zpc_bv (fun σ10 e10 => ?_)
  have n10 : ∀ j, ¬ j = 7 → σ10.1 1 j = σ8.1 1 j := fun j hj => by rw [e10]; exact zsi_nj hj
  have w10 : ∀ w, σ10.1 (ztp w) = σ.1 (ztp w) := fun w => by rw [e10, zsi_ne (fun e => z_tp1 w e.symm)]; exact w7 w
  have a7 : σ10.1 1 7 = v9 := by rw [e10]; exact zsi_ej
  have cb2 : zCb σ10 = fun j => σ.1 (ztp (σ.1 1 0)) (s0.toNatClampNeg + j) := by
    funext j
    unfold zCb
    rw [n10 1 (by decide), n10 3 (by decide), a1, a3, w10]
  refine zpc_bi (p_paging (by rw [n10 3 (by decide)]; exact hb7) (by rw [n10 4 (by decide)]; exact hz7)) (fun σ11 v12 p => ?_)
  obtain ⟨r1, r2⟩ := p
  have r1 : σ11 = σ10 := r1
  subst r1
  have r2 : zIsP (σ11.1 1 4) (zCb σ11) (σ11.1 1 7) v12 := r2
  rw [n10 4 (by decide), a4, cb2, a7] at r2
  refine zpc_bv (fun σ13 e13 => zpc_some (Or.inr ⟨rfl, ?_⟩))
  have n13 : ∀ j, ¬ j = 6 → σ13.1 1 j = σ11.1 1 j := fun j hj => by rw [e13]; exact zsi_nj hj
  have b7 : σ13.1 1 7 = v9 := (n13 7 (by decide)).trans a7
  have b6 : σ13.1 1 6 = v12 := by rw [e13]; exact zsi_ej
  refine ⟨⟨((n13 0 (by decide)).trans (n10 0 (by decide))).trans a0, ((n13 1 (by decide)).trans (n10 1 (by decide))).trans a1, ((n13 3 (by decide)).trans (n10 3 (by decide))).trans a3, (((n13 4 (by decide)).trans (n10 4 (by decide))).trans a4).trans e1, (((n13 5 (by decide)).trans (n10 5 (by decide))).trans a5).trans (by rw [e1])⟩, fun w => ?_, ?_, ?_, ?_⟩
  · show σ13.1 (ztp w) = _
    rw [e13, zsi_ne (fun e => z_tp1 w e.symm)]
    exact w10 w
  · show zIsH _ _ (σ13.1 1 7)
    rw [b7, ← e1]
    exact p2
  · show zIsP _ _ (σ13.1 1 7) (σ13.1 1 6)
    rw [b7, b6, ← e1]
    exact r2
  · rw [← e1]
    exact h9
/-- the reference's load -/
noncomputable def zLdM (μ : zSt) (s0 : Int32) (r : zSt × Int32) : Prop := (¬ r.2 = 0 ∧ r.1.1 1 = μ.1 1 ∧ r.1.1 2 = μ.1 2 ∧ ∀ j, j ∈ [5, 6, 7, 8, 9] → r.1.1 0 j = μ.1 0 j) ∨ (r.2 = 0 ∧ zFin (zgi μ 0 2 - s0) (zBk (zgi μ 0 2 - s0)) (fun j => μ.1 1 (s0.toNatClampNeg + j) &&& 255) r)
theorem p_load26 {μ : zSt} {s0 : Int32} (hr : zr 0 262656 (zgi μ 0 2)) (h0 : zr 0 512 s0) : zpc (fX12_load_26 μ s0) (zLdM μ s0) := by
  unfold fX12_load_26
  refine zpc_bv (fun v e1 => zpc_bv (fun μ2 e2 => ?_))
  have rv : zr (-512) 262656 v := by rw [e1]; exact zr_sub (lo := -512) (hi := 262656) hr h0 (by decide)
  have err : ∀ x : Int32, ¬ x = 0 → zLdM μ s0 (μ2, x) := fun x hx => Or.inl ⟨hx, by rw [e2]; exact zsi_ne (by decide), by rw [e2]; exact zsi_ne (by decide), fun j hj => by rw [e2]; exact zsi_nj (fun r => by subst r; revert hj; decide)⟩
  refine zpc_if (fun q5 => zpc_ck (zpc_if (fun q7 => zpc_if (fun q9 => ?_) (fun _ => zpc_some (err 3 (by decide)))) (fun _ => zpc_some (err 2 (by decide))))) (fun _ => zpc_some (err 1 (by decide)))
  have h6 := zc_ler (8192) q5 (zr_c (lo := 8192) (hi := 8192) (by decide)) rv (by decide)
  have h9 := zc_lel (262144) q9 h6 (zr_c (lo := 262144) (hi := 262144) (by decide)) (by decide)
  refine zpc_bv (fun μ3 e3 => zpc_ck (zpc_bv (fun μ4 e4 => ?_)))
  have t3 : zgi μ3 0 5 = v := by rw [e3]; exact zsi_ej
  rw [t3] at e4
  have a5 : μ4.1 0 5 = v := by rw [e4, zsi_nj (by decide)]; exact t3
  have a6 : μ4.1 0 6 = zBk v := by rw [e4]; exact zsi_ej
  have a1 : μ4.1 1 = μ.1 1 := by rw [e4, zsi_ne (by decide), e3, zsi_ne (by decide), e2]; exact zsi_ne (by decide)
  have c0 : (0 : Int32).toInt = 0 := rfl
  refine zpc_mono (zpc_and (t_load_89 zfuel μ4 s0 0) (d_89 (z := v) (bk := zBk v) (B := fun j => μ.1 1 (s0.toNatClampNeg + j) &&& 255) (T := μ.1 1) (zr_w h9 (by decide)) (fun j => z_byte _) h0 (fun j _ => rfl) (z_bank h9).1 zfuel μ4 0 (zr_c (by decide)) a1 a5 a6 (fun j hj _ => by exfalso; omega))) (fun r p => Or.inr ⟨p.1.1, ?_⟩)
  rw [← e1]
  exact p.2
/-- both loads -/
theorem z2_load {σ μ : zSt} (h : zR6 σ μ) (hr : zr 0 262656 (zgi μ 0 2)) : zp2 (fX11_load σ ) (fX12_load μ ) (fun r r' => r.2 = r'.2 → zR6L 0 r.1 r'.1) := by
  have e12 : zgi σ 1 2 = zgi μ 0 2 := h.1
  have hrC : zr 0 262656 (zgi σ 1 2) := by rw [e12]; exact hr
  have hr1 := hr.1
  have hr2 := hr.2
  -- one offset for both
  obtain ⟨s0, hs0, hC, hM⟩ : ∃ s0, zr 0 512 s0 ∧ zpc (fX2_takeTape σ ) (zTake σ s0) ∧ ∀ μ1, zgi μ1 0 2 = zgi μ 0 2 → zpc (if (zrem (zgi μ1 0 2) 16384) = 512 then fX12_load_26 μ1 512 else fX12_load_26 μ1 0) (zLdM μ1 s0) := by
    unfold fX2_takeTape
    rw [e12]
    by_cases q : (zrem (zgi μ 0 2) 16384) = 512
    · refine ⟨512, zr_c (by decide), zpc_ck (zpc_if (fun _ => p_take21 hrC (zr_c (by decide))) (fun r => absurd q r)), fun μ1 e => ?_⟩
      rw [e]
      exact zpc_if (fun _ => p_load26 (by rw [e]; exact hr) (zr_c (by decide))) (fun r => absurd q r)
    · refine ⟨0, zr_c (by decide), zpc_ck (zpc_if (fun r => absurd r q) (fun _ => p_take21 hrC (zr_c (by decide)))), fun μ1 e => ?_⟩
      rw [e]
      exact zpc_if (fun r => absurd r q) (fun _ => p_load26 (by rw [e]; exact hr) (zr_c (by decide)))
  -- the class behind it
  have PC : zpc (fX11_load σ ) (zTake σ s0) := by
    unfold fX11_load fX11_load_28
    refine zpc_bi hC (fun σ1 v2 p => zpc_if (fun q => ?_) (fun _ => zpc_some p))
    have k1 : zKeC σ1 σ1 := ⟨rfl, rfl, rfl⟩
    refine zpc_bu (w_fX2_clearRam k1) (fun σ3 k3 => zpc_bu (w_fX11_clearAll k3) (fun σ4 k4 => zpc_ck (zpc_bs (zKeC.wi (k := 0) (j := 11) (v := 0) k4 (by decide)) (fun σ5 k5 => zpc_some ?_))))
    rcases p with ⟨p1, _⟩ | ⟨p1, ⟨a0, a1, a3, a4, a5⟩, w, p2, p3, p4⟩
    · exact absurd q p1
    · have r1 : σ5.1 1 = σ1.1 1 := k5.1
      refine Or.inr ⟨q, ⟨?_, ?_, ?_, ?_, ?_⟩, fun x => (k5.row x).trans (w x), ?_, ?_, p4⟩
      · show σ5.1 1 0 = _; rw [r1]; exact a0
      · show σ5.1 1 1 = _; rw [r1]; exact a1
      · show σ5.1 1 3 = _; rw [r1]; exact a3
      · show σ5.1 1 4 = _; rw [r1]; exact a4
      · show σ5.1 1 5 = _; rw [r1]; exact a5
      · show zIsH _ _ (σ5.1 1 7); rw [r1]; exact p2
      · show zIsP _ _ (σ5.1 1 7) (σ5.1 1 6); rw [r1]; exact p3
  have PM : zpc (fX12_load μ ) (zLdM μ s0) := by
    unfold fX12_load
    refine zpc_bv (fun μ1 e1 => zpc_ck ?_)
    have l := z_c02 e1
    have r1 : μ1.1 1 = μ.1 1 := by rw [e1]; exact zsi_ne (by decide)
    have r2 : μ1.1 2 = μ.1 2 := by rw [e1]; exact zsi_ne (by decide)
    refine zpc_mono (hM μ1 l) (fun r p => ?_)
    unfold zLdM at p ⊢
    rw [r1, r2, l] at p
    rcases p with ⟨p1, p2, p3, p4⟩ | p
    · exact Or.inl ⟨p1, p2, p3, fun j hj => (p4 j hj).trans (by rw [e1]; exact zsi_nj (fun r => by subst r; revert hj; decide))⟩
    · exact Or.inr p
  refine zp2_of PC PM (fun r r' p p' ev => ?_)
  obtain ⟨hL, hD, hCt⟩ := h.2
  rcases p with ⟨p1, p2, p3⟩ | ⟨p1, ⟨a0, a1, a3, a4, a5⟩, w, ph, pp, pz⟩
  · rcases p' with ⟨_, q2, q3, q4⟩ | ⟨q1, _⟩
    · refine ⟨fun j hj => by exfalso; omega, ?_, ?_⟩
      · rw [p2 0 (by decide), p2 1 (by decide)]; exact hD
      · exact hCt.keep (fun j hj => p2 j (fun e => by subst e; revert hj; decide)) (p3 _) q4 q3
    · exact absurd (ev.trans q1) p1
  · rcases p' with ⟨q1, _⟩ | ⟨_, ⟨f5, f6, fb⟩, fh, fp, fs⟩
    · exact absurd (ev.symm.trans p1) q1
    · rw [e12] at a4 a5 ph pp pz
      have z0 := pz.1
      have k0 := z_clamp hs0.1
      have ts : (zgi μ 0 2 - s0).toInt = (zgi μ 0 2).toInt - s0.toInt := z_tsub hr hs0 (by decide)
      -- bytes
      have eb : ∀ j : Nat, (j : Int) < (zgi μ 0 2 - s0).toInt → σ.1 (ztp (σ.1 1 0)) (s0.toNatClampNeg + j) = μ.1 1 (s0.toNatClampNeg + j) &&& 255 := fun j hj => hL _ (by have : (zgi μ 0 2).toInt = (μ.1 0 2).toInt := rfl; omega)
      have ph2 := zIsH.cong eb ph
      have hh : r.1.1 1 7 = r'.1.1 0 8 := ph2.one fh
      have pp2 := zIsP.cong eb pp
      rw [hh] at pp2
      have hp : r.1.1 1 6 = r'.1.1 0 7 := pp2.one fp
      obtain ⟨l1, l2⟩ := fh.lt (by omega)
      refine ⟨fun j hj => by exfalso; omega, ?_, ?_⟩
      · rw [a0, a1]; exact fun e => hD e.symm
      · refine ⟨a4.trans f5.symm, a5.trans f6.symm, hp, hh, fun j hj => ?_, fun hq => ?_⟩
        · rw [f5] at hj
          rw [a1, a3, w, eb j hj, fb j hj]
        · rw [f5]
          have l3 := l2 hq
          refine ⟨l3, ?_⟩
          rw [fs hq]
          exact zSum_cong (fun j hj => (fb j hj).symm) hq l3
end ZJN8
section ZJN9
/-! card -/
theorem z_nib {x : Int32} : (x &&& 255) >>> ((4 : Int32) &&& 31) = (x >>> ((4 : Int32) &&& 31)) &&& 15 := by
  rw [Int32.shiftRight_and, show ((255 : Int32) >>> ((4 : Int32) &&& 31)) = 15 by decide]
theorem p_sum55 {σ : zSt} (hb : zr 0 512 (σ.1 1 3)) (hz : zr 0 262144 (σ.1 1 4)) : ∀ (n : Nat) (x2 x3 : Int32), zr 32768 262144 x3 → zpc (fX2_sumOfCard_55 n σ x2 x3) (fun r => r.2 = zSm (zCb σ) ((σ.1 1 4).toNatClampNeg - x3.toNatClampNeg) x3.toNatClampNeg x2 &&& 65535) := by
  intro n
  induction n with
  | zero => intro x2 x3 _; exact zpc_none
  | succ n ih =>
    intro x2 x3 h3
    show zpc (fX2_sumOfCard_55_body (fX2_sumOfCard_55 n) σ x2 x3) _
    unfold fX2_sumOfCard_55_body fX2_sumOfCard_77
    have b3 := h3.1
    have k3 := z_clamp (x := x3) (by omega)
    have kz := z_clamp hz.1
    have z2 := hz.2
    have g : (zgi σ 1 4).toInt = (σ.1 1 4).toInt := rfl
    refine zpc_if (fun q => zpc_some ?_) (fun q => ?_)
    · have q1 := Int32.le_iff_toInt_le.mp q
      rw [show (σ.1 1 4).toNatClampNeg - x3.toNatClampNeg = 0 by omega]
      rfl
    · have q1 := Int32.lt_iff_toInt_lt.mp (z_nle q)
      refine zpc_bi (p_romByte (x := x3) (by omega) (by omega) hb z2) (fun σ1 v p => ?_)
      obtain ⟨p1, p2⟩ := p
      have p1 : σ1 = σ := p1
      subst p1
      have p2 : v = zCb σ1 x3.toNatClampNeg := p2
      refine zpc_bv (fun v3 e3 => zpc_bv (fun v4 e4 => ?_))
      subst e4
      have c1 : (1 : Int32).toInt = 1 := rfl
      have t : (x3 + 1).toInt = x3.toInt + (1 : Int32).toInt := z_tadd h3 (zr_c (lo := 1) (hi := 1) (by decide)) (by decide)
      have k4 := z_clamp (x := x3 + 1) (by omega)
      refine zpc_mono (ih v3 (x3 + 1) ⟨by omega, by omega⟩) (fun r p => ?_)
      rw [p, e3, p2, show (x3 + 1).toNatClampNeg = x3.toNatClampNeg + 1 by omega, show (σ1.1 1 4).toNatClampNeg - x3.toNatClampNeg = ((σ1.1 1 4).toNatClampNeg - (x3.toNatClampNeg + 1)) + 1 by omega]
      rfl
theorem p_sum19 {σ : zSt} (hb : zr 0 512 (σ.1 1 3)) (hz : zr 0 262144 (σ.1 1 4)) (h0 : 0 ≤ (σ.1 1 7).toInt) (h1 : (σ.1 1 7).toInt + 16 ≤ (σ.1 1 4).toInt) {x1 : Int32} (hc : x1 = zCb σ ((σ.1 1 7).toNatClampNeg + 15) &&& 15) : ∀ (n : Nat) (x2 x3 : Int32), 0 ≤ x3.toInt → x3.toInt ≤ (σ.1 1 7).toInt → zSm (zCb σ) ((σ.1 1 7).toNatClampNeg - x3.toNatClampNeg) x3.toNatClampNeg x2 = zSm (zCb σ) (σ.1 1 7).toNatClampNeg 0 0 → zpc (fX2_sumOfCard_19 n σ x1 x2 x3) (fun r => r.2 = zSum (σ.1 1 4) (σ.1 1 7) (zCb σ)) := by
  intro n
  induction n with
  | zero => intro x2 x3 _ _ _; exact zpc_none
  | succ n ih =>
    intro x2 x3 l0 l1 hS
    show zpc (fX2_sumOfCard_19_body (fX2_sumOfCard_19 n) σ x1 x2 x3) _
    unfold fX2_sumOfCard_19_body fX2_sumOfCard_52 fX2_sumOfCard_77
    have k3 := z_clamp l0
    have kh := z_clamp h0
    have z2 := hz.2
    have g : (zgi σ 1 7).toInt = (σ.1 1 7).toInt := rfl
    refine zpc_if (fun q => ?_) (fun q => ?_)
    · have q1 := Int32.le_iff_toInt_le.mp q
      rw [show (σ.1 1 7).toNatClampNeg - x3.toNatClampNeg = 0 by omega] at hS
      have hS : x2 = zSm (zCb σ) (σ.1 1 7).toNatClampNeg 0 0 := hS
      have c3 : (13 : Int32).toInt = 13 := rfl
      have c4 : (14 : Int32).toInt = 14 := rfl
      have d3 : (3 : Int32).toInt = 3 := rfl
      have d2 : (2 : Int32).toInt = 2 := rfl
      have lng : (13 < x1 ∨ ¬ 3 ≤ x1) → zpc (fX2_sumOfCard_55 zfuel σ x2 32768) (fun r => r.2 = zSum (σ.1 1 4) (σ.1 1 7) (zCb σ)) := fun hl => by
        refine zpc_mono (p_sum55 hb hz zfuel x2 32768 (zr_c (by decide))) (fun r p => ?_)
        rw [p, hS]
        unfold zSum
        rw [← hc]
        by_cases a : 13 < x1
        · rw [if_pos a]; rfl
        · rw [if_neg a]
          rcases hl with b | b
          · exact absurd b a
          · rw [if_neg b]; rfl
      refine zpc_if (fun r => ?_) (fun r => zpc_if (fun s => ?_) (fun s => ?_))
      · exact lng (Or.inl (Int32.lt_iff_toInt_lt.mpr (by have := Int32.le_iff_toInt_le.mp r; omega)))
      · refine zpc_some ?_
        show x2 &&& 65535 = _
        unfold zSum
        rw [← hc, if_neg (fun a => r (Int32.le_iff_toInt_le.mpr (by have := Int32.lt_iff_toInt_lt.mp a; omega))), if_pos (Int32.le_iff_toInt_le.mpr (by have := Int32.lt_iff_toInt_lt.mp s; omega)), hS]
      · exact lng (Or.inr (fun a => s (Int32.lt_iff_toInt_lt.mpr (by have := Int32.le_iff_toInt_le.mp a; omega))))
    · have q1 := Int32.lt_iff_toInt_lt.mp (z_nle q)
      refine zpc_bi (p_romByte (x := x3) l0 (by omega) hb z2) (fun σ1 v p => ?_)
      obtain ⟨p1, p2⟩ := p
      have p1 : σ1 = σ := p1
      subst p1
      have p2 : v = zCb σ1 x3.toNatClampNeg := p2
      refine zpc_bv (fun v3 e3 => zpc_bv (fun v4 e4 => ?_))
      subst e4
      have c1 : (1 : Int32).toInt = 1 := rfl
      have t : (x3 + 1).toInt = x3.toInt + (1 : Int32).toInt := z_tadd (a := 0) (b := 262144) ⟨l0, by omega⟩ (zr_c (lo := 1) (hi := 1) (by decide)) (by decide)
      have k4 := z_clamp (x := x3 + 1) (by omega)
      refine ih v3 (x3 + 1) (by omega) (by omega) ?_
      rw [← hS, e3, p2, show (x3 + 1).toNatClampNeg = x3.toNatClampNeg + 1 by omega, show (σ1.1 1 7).toNatClampNeg - x3.toNatClampNeg = ((σ1.1 1 7).toNatClampNeg - (x3.toNatClampNeg + 1)) + 1 by omega]
      rfl
theorem p_rb {σ : zSt} (hb : zr 0 512 (σ.1 1 3)) (hz : zr 0 262144 (σ.1 1 4)) (h0 : 0 ≤ (σ.1 1 7).toInt) (h1 : (σ.1 1 7).toInt + 16 ≤ (σ.1 1 4).toInt) {c : Int32} {i : Nat} (hc : c.toInt = i) (hi : i < 16) : zpc (fX2_romByte σ (zgi σ 1 7 + c)) (fun r => r.1 = σ ∧ r.2 = zCb σ ((σ.1 1 7).toNatClampNeg + i)) := by
  have t : (σ.1 1 7 + c).toInt = (σ.1 1 7).toInt + c.toInt := z_tadd (a := 0) (b := 262144) (c := 0) (d := 15) ⟨h0, by have := hz.2; omega⟩ ⟨by omega, by omega⟩ (by decide)
  have z2 := hz.2
  have k := z_clamp h0
  have k1 := z_clamp (x := σ.1 1 7 + c) (by omega)
  refine zpc_mono (p_romByte (x := σ.1 1 7 + c) (by omega) (by omega) hb z2) (fun r p => ⟨p.1, ?_⟩)
  rw [p.2, show (σ.1 1 7 + c).toNatClampNeg = (σ.1 1 7).toNatClampNeg + i by omega]
theorem p_sum {σ : zSt} (hb : zr 0 512 (σ.1 1 3)) (hz : zr 0 262144 (σ.1 1 4)) (h0 : 0 ≤ (σ.1 1 7).toInt) (h1 : (σ.1 1 7).toInt + 16 ≤ (σ.1 1 4).toInt) : zpc (fX2_sumOfCard σ ) (fun r => r.2 = zSum (σ.1 1 4) (σ.1 1 7) (zCb σ)) := by
  unfold fX2_sumOfCard
  refine zpc_bi (p_rb hb hz h0 h1 (c := 15) (i := 15) rfl (by decide)) (fun σ1 v p => ?_)
  obtain ⟨p1, p2⟩ := p
  have p1 : σ1 = σ := p1
  subst p1
  have p2 : v = zCb σ1 ((σ1.1 1 7).toNatClampNeg + 15) := p2
  refine zpc_bv (fun v11 e11 => p_sum19 hb hz h0 h1 (by rw [e11, p2]) zfuel 0 0 (by decide) h0 rfl)
theorem p_dec {σ : zSt} (hb : zr 0 512 (σ.1 1 3)) (hz : zr 0 262144 (σ.1 1 4)) (h0 : 0 ≤ (σ.1 1 7).toInt) (h1 : (σ.1 1 7).toInt + 16 ≤ (σ.1 1 4).toInt) {c : Int32} {i : Nat} (hc : c.toInt = i) (hi : i < 16) : zpc (fX2_decimal σ c) (fun r => r.1 = σ ∧ r.2 = 10 * (zCb σ ((σ.1 1 7).toNatClampNeg + i) >>> ((4 : Int32) &&& 31)) + (zCb σ ((σ.1 1 7).toNatClampNeg + i) &&& 15)) := by
  unfold fX2_decimal
  refine zpc_bi (p_rb hb hz h0 h1 hc hi) (fun σ1 v p => zpc_some ?_)
  obtain ⟨p1, p2⟩ := p
  have p2 : v = zCb σ ((σ.1 1 7).toNatClampNeg + i) := p2
  exact ⟨p1, by rw [p2]⟩
theorem p_tens {μ : zSt} {x : Int32} : zpc (fX12_tens μ x) (fun r => r.1 = μ ∧ r.2 = 10 * ((zMb μ x.toNatClampNeg) >>> ((4 : Int32) &&& 31)) + (zMb μ x.toNatClampNeg &&& 15)) := by
  unfold fX12_tens
  refine zpc_ck (zpc_ck (zpc_some ⟨rfl, ?_⟩))
  show (10 * (((zgi μ 2 x.toNatClampNeg) >>> ((4 : Int32) &&& 31)) &&& 15)) + ((zgi μ 2 x.toNatClampNeg) &&& 15) = _
  unfold zMb
  rw [z_nib, ← z_and15]
  rfl
theorem z_card {σ μ : zSt} (h : zR6 σ μ) (hb : zr 0 512 (σ.1 1 3)) (hz : zr 0 262144 (σ.1 1 4)) {x1 : Int32} (hx : zr 0 7 x1) : ∃ val, zpc (fX2_aboutCard σ x1) (fun r => r.2 = val) ∧ zpc (fX12_card_18 μ x1 0) (fun r => r.2 = val ∧ zTh 0 r.1) := by
  obtain ⟨c4, c5, c6, c7, cb, cs⟩ := h.2.2.2
  have x0 := hx.1
  have x7 := hx.2
  have d0 : (0 : Int32).toInt = 0 := rfl
  obtain ⟨i, hi⟩ : ∃ i : Nat, x1.toInt = i := ⟨x1.toInt.toNat, by omega⟩
  have ex := z_ofN hi
  have l8 : i < 8 := by omega
  -- the reference behind its first step
  have at1 : ∀ μ1, μ1 = zsi μ 0 0 0 → zTh 0 μ1 ∧ μ1.1 2 = μ.1 2 ∧ (∀ j, ¬ j = 0 → μ1.1 0 j = μ.1 0 j) := fun μ1 e => by
    subst e
    exact ⟨zTh_own, zsi_ne (by decide), fun j hj => zsi_nj hj⟩
  by_cases hh : 0 ≤ (μ.1 0 8).toInt
  · obtain ⟨h16, hs⟩ := cs hh
    have hC : 0 ≤ (σ.1 1 7).toInt := by rw [c7]; exact hh
    have hC1 : (σ.1 1 7).toInt + 16 ≤ (σ.1 1 4).toInt := by rw [c7, c4]; exact h16
    have hC0 : (0 : Int32) ≤ zgi σ 1 7 := Int32.le_iff_toInt_le.mpr (by rw [d0]; exact hC)
    have z2 := hz.2
    rw [c4] at z2
    have kh := z_clamp hh
    have by_ : ∀ j : Nat, (j : Int) < (μ.1 0 5).toInt → zCb σ j = zMb μ j := fun j hj => cb j hj
    have eh : (σ.1 1 7).toNatClampNeg = (μ.1 0 8).toNatClampNeg := by rw [c7]
    have pl : ∀ (c : Int32) (k : Nat), c.toInt = k → k < 16 → (μ.1 0 8 + c).toNatClampNeg = (μ.1 0 8).toNatClampNeg + k := fun c k hc hk => by
      have t : (μ.1 0 8 + c).toInt = (μ.1 0 8).toInt + c.toInt := z_tadd (a := 0) (b := 262144) (c := 0) (d := 15) ⟨hh, by omega⟩ ⟨by omega, by omega⟩ (by decide)
      have k1 := z_clamp (x := μ.1 0 8 + c) (by omega)
      omega
    have m0 : ∀ μ1, μ1 = zsi μ 0 0 0 → (0 : Int32) ≤ zgi μ1 0 8 := fun μ1 e => Int32.le_iff_toInt_le.mpr (by rw [d0, show zgi μ1 0 8 = μ.1 0 8 from (at1 μ1 e).2.2 8 (by decide)]; exact hh)
    have bM : ∀ (μ1 : zSt) (e : μ1 = zsi μ 0 0 0) (c : Int32) (k : Nat), c.toInt = k → k < 16 → zMb μ1 (zgi μ1 0 8 + c).toNatClampNeg = zMb μ ((μ.1 0 8).toNatClampNeg + k) := fun μ1 e c k hc hk => by
      unfold zMb
      rw [(at1 μ1 e).2.1, show zgi μ1 0 8 = μ.1 0 8 from (at1 μ1 e).2.2 8 (by decide), pl c k hc hk]
    have bC : ∀ k : Nat, k < 16 → zCb σ ((σ.1 1 7).toNatClampNeg + k) = zMb μ ((μ.1 0 8).toNatClampNeg + k) := fun k hk => by rw [eh]; exact by_ _ (by omega)
    rcases (show i = 0 ∨ i = 1 ∨ i = 2 ∨ i = 3 ∨ i = 4 ∨ i = 5 ∨ i = 6 ∨ i = 7 by omega) with r | r | r | r | r | r | r | r <;> rw [r] at ex <;> subst ex
    · refine ⟨zgi σ 1 6, ?_, ?_⟩
      · unfold fX2_aboutCard fX2_aboutCard_14
        exact zpc_if (fun _ => zpc_if (fun _ => zpc_some rfl) (fun q => absurd rfl q)) (fun q => absurd (by decide) q)
      · unfold fX12_card_18 fX12_card_59
        exact zpc_fails0 (fun μ1 e1 => zpc_if (fun _ => zpc_if (fun q => absurd q (by decide)) (fun _ => zpc_if (fun _ => zpc_some ⟨((at1 μ1 e1).2.2 7 (by decide)).trans c6.symm, (at1 μ1 e1).1⟩) (fun q => absurd rfl q))) (fun q => absurd rfl q))
    · refine ⟨zgi σ 1 5, ?_, ?_⟩
      · unfold fX2_aboutCard fX2_aboutCard_14
        exact zpc_if (fun _ => zpc_if (fun q => absurd q (by decide)) (fun _ => zpc_if (fun _ => zpc_some rfl) (fun q => absurd rfl q))) (fun q => absurd (by decide) q)
      · unfold fX12_card_18 fX12_card_59
        exact zpc_fails0 (fun μ1 e1 => zpc_if (fun _ => zpc_if (fun q => absurd q (by decide)) (fun _ => zpc_if (fun q => absurd q (by decide)) (fun _ => zpc_if (fun _ => zpc_some ⟨((at1 μ1 e1).2.2 6 (by decide)).trans c5.symm, (at1 μ1 e1).1⟩) (fun q => absurd rfl q)))) (fun q => absurd rfl q))
    · refine ⟨zgi σ 1 7, ?_, ?_⟩
      · unfold fX2_aboutCard fX2_aboutCard_14
        exact zpc_if (fun _ => zpc_if (fun q => absurd q (by decide)) (fun _ => zpc_if (fun q => absurd q (by decide)) (fun _ => zpc_if (fun _ => zpc_some rfl) (fun q => absurd rfl q)))) (fun q => absurd (by decide) q)
      · unfold fX12_card_18 fX12_card_59
        exact zpc_fails0 (fun μ1 e1 => zpc_if (fun _ => zpc_if (fun q => absurd q (by decide)) (fun _ => zpc_if (fun q => absurd q (by decide)) (fun _ => zpc_if (fun q => absurd q (by decide)) (fun _ => zpc_some ⟨((at1 μ1 e1).2.2 8 (by decide)).trans c7.symm, (at1 μ1 e1).1⟩)))) (fun q => absurd rfl q))
    · refine ⟨(10 * (zMb μ ((μ.1 0 8).toNatClampNeg + 12) >>> ((4 : Int32) &&& 31)) + (zMb μ ((μ.1 0 8).toNatClampNeg + 12) &&& 15)) + (100 * (10 * (zMb μ ((μ.1 0 8).toNatClampNeg + 13) >>> ((4 : Int32) &&& 31)) + (zMb μ ((μ.1 0 8).toNatClampNeg + 13) &&& 15))) + (10000 * (zMb μ ((μ.1 0 8).toNatClampNeg + 14) >>> ((4 : Int32) &&& 31))), ?_, ?_⟩
      · unfold fX2_aboutCard fX2_aboutCard_14
        refine zpc_if (fun q => absurd q (by decide)) (fun _ => zpc_if (fun _ => zpc_if (fun q => absurd q (by decide)) (fun _ => zpc_if (fun q => absurd q (by decide)) (fun _ => zpc_if (fun q => absurd q (by decide)) (fun _ => zpc_if (fun _ => ?_) (fun q => absurd rfl q))))) (fun q => absurd hC0 q))
        refine zpc_bi (p_dec hb hz hC hC1 (c := 12) (i := 12) rfl (by decide)) (fun σ1 v2 p => ?_)
        obtain ⟨p1, p2⟩ := p
        have p1 : σ1 = σ := p1
        subst p1
        have p2 : v2 = _ := p2
        refine zpc_bi (p_dec hb hz hC hC1 (c := 13) (i := 13) rfl (by decide)) (fun σ3 v4 p => ?_)
        obtain ⟨r1, r2⟩ := p
        have r1 : σ3 = σ1 := r1
        subst r1
        have r2 : v4 = _ := r2
        refine zpc_bi (p_rb hb hz hC hC1 (c := 14) (i := 14) rfl (by decide)) (fun σ5 v6 p => zpc_some ?_)
        obtain ⟨s1, s2⟩ := p
        have s2 : v6 = _ := s2
        show (v2 + (100 * v4)) + (10000 * (v6 >>> ((4 : Int32) &&& 31))) = _
        rw [p2, r2, s2, bC 12 (by decide), bC 13 (by decide), bC 14 (by decide)]
      · unfold fX12_card_18
        refine zpc_fails0 (fun μ1 e1 => zpc_if (fun _ => zpc_if (fun _ => zpc_if (fun _ => zpc_if (fun _ => ?_) (fun q => absurd rfl q)) (fun q => absurd (m0 μ1 e1) q)) (fun q => absurd (by decide) q)) (fun q => absurd rfl q))
        refine zpc_bi p_tens (fun μ3 v4 p => ?_)
        obtain ⟨p1, p2⟩ := p
        have p1 : μ3 = μ1 := p1
        subst p1
        have p2 : v4 = _ := p2
        refine zpc_bi p_tens (fun μ5 v6 p => ?_)
        obtain ⟨r1, r2⟩ := p
        have r1 : μ5 = μ3 := r1
        subst r1
        have r2 : v6 = _ := r2
        refine zpc_ck (zpc_some ⟨?_, (at1 μ5 e1).1⟩)
        show (v4 + (100 * v6)) + (10000 * (((zgi μ5 2 (zgi μ5 0 8 + 14).toNatClampNeg) >>> ((4 : Int32) &&& 31)) &&& 15)) = _
        rw [← z_nib, p2, r2, bM μ5 e1 12 12 rfl (by decide), bM μ5 e1 13 13 rfl (by decide), show (zgi μ5 2 (zgi μ5 0 8 + 14).toNatClampNeg &&& 255) = zMb μ5 (zgi μ5 0 8 + 14).toNatClampNeg from rfl, bM μ5 e1 14 14 rfl (by decide)]
    · refine ⟨zMb μ ((μ.1 0 8).toNatClampNeg + 15) >>> ((4 : Int32) &&& 31), ?_, ?_⟩
      · unfold fX2_aboutCard fX2_aboutCard_14
        refine zpc_if (fun q => absurd q (by decide)) (fun _ => zpc_if (fun _ => zpc_if (fun q => absurd q (by decide)) (fun _ => zpc_if (fun q => absurd q (by decide)) (fun _ => zpc_if (fun q => absurd q (by decide)) (fun _ => zpc_if (fun q => absurd q (by decide)) (fun _ => zpc_if (fun _ => ?_) (fun q => absurd rfl q)))))) (fun q => absurd hC0 q))
        refine zpc_bi (p_rb hb hz hC hC1 (c := 15) (i := 15) rfl (by decide)) (fun σ5 v6 p => zpc_some ?_)
        obtain ⟨s1, s2⟩ := p
        have s2 : v6 = _ := s2
        show v6 >>> ((4 : Int32) &&& 31) = _
        rw [s2, bC 15 (by decide)]
      · unfold fX12_card_18
        refine zpc_fails0 (fun μ1 e1 => zpc_if (fun _ => zpc_if (fun _ => zpc_if (fun _ => zpc_if (fun q => absurd q (by decide)) (fun _ => zpc_if (fun _ => zpc_ck (zpc_some ⟨?_, (at1 μ1 e1).1⟩)) (fun q => absurd rfl q))) (fun q => absurd (m0 μ1 e1) q)) (fun q => absurd (by decide) q)) (fun q => absurd rfl q))
        show ((zgi μ1 2 (zgi μ1 0 8 + 15).toNatClampNeg) >>> ((4 : Int32) &&& 31)) &&& 15 = _
        rw [← z_nib, show (zgi μ1 2 (zgi μ1 0 8 + 15).toNatClampNeg &&& 255) = zMb μ1 (zgi μ1 0 8 + 15).toNatClampNeg from rfl, bM μ1 e1 15 15 rfl (by decide)]
    · refine ⟨zMb μ ((μ.1 0 8).toNatClampNeg + 15) &&& 15, ?_, ?_⟩
      · unfold fX2_aboutCard fX2_aboutCard_14
        refine zpc_if (fun q => absurd q (by decide)) (fun _ => zpc_if (fun _ => zpc_if (fun q => absurd q (by decide)) (fun _ => zpc_if (fun q => absurd q (by decide)) (fun _ => zpc_if (fun q => absurd q (by decide)) (fun _ => zpc_if (fun q => absurd q (by decide)) (fun _ => zpc_if (fun q => absurd q (by decide)) (fun _ => zpc_if (fun _ => ?_) (fun q => absurd rfl q))))))) (fun q => absurd hC0 q))
        refine zpc_bi (p_rb hb hz hC hC1 (c := 15) (i := 15) rfl (by decide)) (fun σ5 v6 p => zpc_some ?_)
        obtain ⟨s1, s2⟩ := p
        have s2 : v6 = _ := s2
        show v6 &&& 15 = _
        rw [s2, bC 15 (by decide)]
      · unfold fX12_card_18
        refine zpc_fails0 (fun μ1 e1 => zpc_if (fun _ => zpc_if (fun _ => zpc_if (fun _ => zpc_if (fun q => absurd q (by decide)) (fun _ => zpc_if (fun q => absurd q (by decide)) (fun _ => zpc_if (fun _ => zpc_ck (zpc_some ⟨?_, (at1 μ1 e1).1⟩)) (fun q => absurd rfl q)))) (fun q => absurd (m0 μ1 e1) q)) (fun q => absurd (by decide) q)) (fun q => absurd rfl q))
        show (zgi μ1 2 (zgi μ1 0 8 + 15).toNatClampNeg) &&& 15 = _
        rw [z_and15, show (zgi μ1 2 (zgi μ1 0 8 + 15).toNatClampNeg &&& 255) = zMb μ1 (zgi μ1 0 8 + 15).toNatClampNeg from rfl, bM μ1 e1 15 15 rfl (by decide)]
    · refine ⟨zWd (zMb μ) ((μ.1 0 8).toNatClampNeg + 10), ?_, ?_⟩
      · unfold fX2_aboutCard fX2_aboutCard_14
        refine zpc_if (fun q => absurd q (by decide)) (fun _ => zpc_if (fun _ => zpc_if (fun q => absurd q (by decide)) (fun _ => zpc_if (fun q => absurd q (by decide)) (fun _ => zpc_if (fun q => absurd q (by decide)) (fun _ => zpc_if (fun q => absurd q (by decide)) (fun _ => zpc_if (fun q => absurd q (by decide)) (fun _ => zpc_if (fun q => absurd q (by decide)) (fun _ => zpc_if (fun _ => ?_) (fun q => absurd rfl q)))))))) (fun q => absurd hC0 q))
        have t : (σ.1 1 7 + 10).toInt = (σ.1 1 7).toInt + (10 : Int32).toInt := z_tadd (a := 0) (b := 262144) ⟨hC, by rw [c7]; omega⟩ (zr_c (lo := 10) (hi := 10) (by decide)) (by decide)
        have ct : (10 : Int32).toInt = 10 := rfl
        have kc := z_clamp hC
        have k1 := z_clamp (x := σ.1 1 7 + 10) (by omega)
        refine zpc_bi (p_romWord (x := σ.1 1 7 + 10) (by omega) (by omega) hb hz) (fun σ5 v6 p => zpc_some ?_)
        obtain ⟨s1, s2⟩ := p
        have s2 : v6 = _ := s2
        show v6 = _
        rw [s2, show (σ.1 1 7 + 10).toNatClampNeg = (σ.1 1 7).toNatClampNeg + 10 by omega]
        unfold zWd
        rw [show (σ.1 1 7).toNatClampNeg + 10 + 1 = (σ.1 1 7).toNatClampNeg + 11 from rfl, bC 10 (by decide), bC 11 (by decide)]
      · unfold fX12_card_18
        refine zpc_fails0 (fun μ1 e1 => zpc_if (fun _ => zpc_if (fun _ => zpc_if (fun _ => zpc_if (fun q => absurd q (by decide)) (fun _ => zpc_if (fun q => absurd q (by decide)) (fun _ => zpc_if (fun q => absurd q (by decide)) (fun _ => zpc_if (fun _ => ?_) (fun q => absurd rfl q))))) (fun q => absurd (m0 μ1 e1) q)) (fun q => absurd (by decide) q)) (fun q => absurd rfl q))
        have t : (μ.1 0 8 + 10).toInt = (μ.1 0 8).toInt + (10 : Int32).toInt := z_tadd (a := 0) (b := 262144) ⟨hh, by omega⟩ (zr_c (lo := 10) (hi := 10) (by decide)) (by decide)
        have ct : (10 : Int32).toInt = 10 := rfl
        have g8 : zgi μ1 0 8 = μ.1 0 8 := (at1 μ1 e1).2.2 8 (by decide)
        refine zpc_bi (p_bytesAt (x := zgi μ1 0 8 + 10) (by rw [g8]; exact ⟨by omega, by omega⟩)) (fun μ5 v6 p => zpc_some ?_)
        obtain ⟨s1, s2⟩ := p
        have s1 : μ5 = μ1 := s1
        have s2 : v6 = _ := s2
        refine ⟨?_, by show zTh 0 μ5; rw [s1]; exact (at1 μ1 e1).1⟩
        show v6 = _
        rw [s2, g8, pl 10 10 rfl (by decide)]
        unfold zWd zMb
        rw [(at1 μ1 e1).2.1]
    · refine ⟨zSum (μ.1 0 5) (μ.1 0 8) (zMb μ), ?_, ?_⟩
      · unfold fX2_aboutCard fX2_aboutCard_14
        refine zpc_if (fun q => absurd q (by decide)) (fun _ => zpc_if (fun _ => zpc_if (fun q => absurd q (by decide)) (fun _ => zpc_if (fun q => absurd q (by decide)) (fun _ => zpc_if (fun q => absurd q (by decide)) (fun _ => zpc_if (fun q => absurd q (by decide)) (fun _ => zpc_if (fun q => absurd q (by decide)) (fun _ => zpc_if (fun q => absurd q (by decide)) (fun _ => zpc_if (fun q => absurd q (by decide)) (fun _ => ?_)))))))) (fun q => absurd hC0 q))
        refine zpc_bi (p_sum hb hz hC hC1) (fun σ5 v6 p => zpc_some ?_)
        have p : v6 = _ := p
        show v6 = _
        rw [p, c4, c7]
        exact zSum_cong (fun j hj => by_ j hj) hh h16
      · unfold fX12_card_18
        refine zpc_fails0 (fun μ1 e1 => zpc_if (fun _ => zpc_if (fun _ => zpc_if (fun _ => zpc_if (fun q => absurd q (by decide)) (fun _ => zpc_if (fun q => absurd q (by decide)) (fun _ => zpc_if (fun q => absurd q (by decide)) (fun _ => zpc_if (fun q => absurd q (by decide)) (fun _ => zpc_some ⟨?_, (at1 μ1 e1).1⟩))))) (fun q => absurd (m0 μ1 e1) q)) (fun q => absurd (by decide) q)) (fun q => absurd rfl q))
        show zgi μ1 0 9 = _
        rw [show zgi μ1 0 9 = μ.1 0 9 from (at1 μ1 e1).2.2 9 (by decide), hs]
        rfl
  · have hn : ¬ (0 : Int32) ≤ zgi σ 1 7 := fun q => hh (by have := Int32.le_iff_toInt_le.mp q; rw [d0, show zgi σ 1 7 = μ.1 0 8 from c7] at this; exact this)
    have mn : ∀ μ1, μ1 = zsi μ 0 0 0 → ¬ (0 : Int32) ≤ zgi μ1 0 8 := fun μ1 e q => hh (by have := Int32.le_iff_toInt_le.mp q; rw [d0, show zgi μ1 0 8 = μ.1 0 8 from (at1 μ1 e).2.2 8 (by decide)] at this; exact this)
    rcases (show i = 0 ∨ i = 1 ∨ i = 2 ∨ 3 ≤ i by omega) with r | r | r | r
    · rw [r] at ex
      subst ex
      refine ⟨zgi σ 1 6, ?_, ?_⟩
      · unfold fX2_aboutCard fX2_aboutCard_14
        exact zpc_if (fun _ => zpc_if (fun _ => zpc_some rfl) (fun q => absurd rfl q)) (fun q => absurd (by decide) q)
      · unfold fX12_card_18 fX12_card_59
        exact zpc_fails0 (fun μ1 e1 => zpc_if (fun _ => zpc_if (fun q => absurd q (by decide)) (fun _ => zpc_if (fun _ => zpc_some ⟨((at1 μ1 e1).2.2 7 (by decide)).trans c6.symm, (at1 μ1 e1).1⟩) (fun q => absurd rfl q))) (fun q => absurd rfl q))
    · rw [r] at ex
      subst ex
      refine ⟨zgi σ 1 5, ?_, ?_⟩
      · unfold fX2_aboutCard fX2_aboutCard_14
        exact zpc_if (fun _ => zpc_if (fun q => absurd q (by decide)) (fun _ => zpc_if (fun _ => zpc_some rfl) (fun q => absurd rfl q))) (fun q => absurd (by decide) q)
      · unfold fX12_card_18 fX12_card_59
        exact zpc_fails0 (fun μ1 e1 => zpc_if (fun _ => zpc_if (fun q => absurd q (by decide)) (fun _ => zpc_if (fun q => absurd q (by decide)) (fun _ => zpc_if (fun _ => zpc_some ⟨((at1 μ1 e1).2.2 6 (by decide)).trans c5.symm, (at1 μ1 e1).1⟩) (fun q => absurd rfl q)))) (fun q => absurd rfl q))
    · rw [r] at ex
      subst ex
      refine ⟨zgi σ 1 7, ?_, ?_⟩
      · unfold fX2_aboutCard fX2_aboutCard_14
        exact zpc_if (fun _ => zpc_if (fun q => absurd q (by decide)) (fun _ => zpc_if (fun q => absurd q (by decide)) (fun _ => zpc_if (fun _ => zpc_some rfl) (fun q => absurd rfl q)))) (fun q => absurd (by decide) q)
      · unfold fX12_card_18 fX12_card_59
        exact zpc_fails0 (fun μ1 e1 => zpc_if (fun _ => zpc_if (fun q => absurd q (by decide)) (fun _ => zpc_if (fun q => absurd q (by decide)) (fun _ => zpc_if (fun q => absurd q (by decide)) (fun _ => zpc_some ⟨((at1 μ1 e1).2.2 8 (by decide)).trans c7.symm, (at1 μ1 e1).1⟩)))) (fun q => absurd rfl q))
    · have d3 : (3 : Int32).toInt = 3 := rfl
      have n3 : ¬ x1 < 3 := fun q => by have := Int32.lt_iff_toInt_lt.mp q; omega
      have y3 : (3 : Int32) ≤ x1 := Int32.le_iff_toInt_le.mpr (by omega)
      refine ⟨0, ?_, ?_⟩
      · unfold fX2_aboutCard
        exact zpc_if (fun q => absurd q n3) (fun _ => zpc_if (fun q => absurd q hn) (fun _ => zpc_some rfl))
      · unfold fX12_card_18
        exact zpc_fails0 (fun μ1 e1 => zpc_if (fun _ => zpc_if (fun _ => zpc_if (fun q => absurd q (mn μ1 e1)) (fun _ => zpc_some ⟨rfl, (at1 μ1 e1).1⟩)) (fun q => absurd y3 q)) (fun q => absurd rfl q))
/-- card, both sides: refused alike, answered alike -/
theorem z2_card {σ μ : zSt} (h : zR6 σ μ) (hb : zr 0 512 (σ.1 1 3)) (hz : zr 0 262144 (σ.1 1 4)) {x1 : Int32} : zp2 (fX11_card σ x1) (fX12_card μ x1) (fun r r' => (¬ zr 0 7 x1 ∧ (∃ s, r = Sum.inr (s, 1)) ∧ zTh 1 r'.1) ∨ (zr 0 7 x1 ∧ (∃ s, r = Sum.inl (s, r'.2)) ∧ zTh 0 r'.1)) := by
  unfold fX11_card fX11_card_10 fX12_card
  have d0 : (0 : Int32).toInt = 0 := rfl
  have d7 : (7 : Int32).toInt = 7 := rfl
  refine zp2_within (fun w1 w2 => ?_) (fun w3 => ?_)
  · have hx := z_wir w1 w2 (zrl_c (lo := 0) (hi := 0) (by decide)) (zrl_c (lo := 7) (hi := 7) (by decide))
    have x0 := hx.1
    have x7 := hx.2
    obtain ⟨val, pc, pm⟩ := z_card h hb hz hx
    refine zp2_ifr (fun q => absurd q (by decide)) (fun _ => ?_)
    refine zp2_ifl (fun q => ?_) (fun _ => zp2_ifl (fun _ => ?_) (fun q => ?_))
    · have := Int32.lt_iff_toInt_lt.mp q; exfalso; omega
    · have pc2 : zpc (zbi (fX2_aboutCard σ x1) (fun σ1 v2 => (some (Sum.inl (σ1, v2)) : Option zRi))) (fun r => ∃ s, r = Sum.inl (s, val)) := zpc_bi pc (fun σ1 v2 p => zpc_some ⟨σ1, by rw [show v2 = val from p]⟩)
      refine zp2_of pc2 pm (fun r r' p p' => ?_)
      obtain ⟨s, e⟩ := p
      exact Or.inr ⟨hx, ⟨s, by rw [e, p'.1]⟩, p'.2⟩
    · have := Int32.lt_iff_toInt_lt.mp (z_nle q); exfalso; omega
  · have hn : ¬ zr 0 7 x1 := z_within w3 rfl rfl
    refine zp2_ifr (fun _ => ?_) (fun q => absurd rfl q)
    unfold fX12_card_18
    refine zp2_fails1 (fun μ1 e1 => zp2_ifr (fun q => absurd q (by decide)) (fun _ => ?_))
    have fin : zp2 (some (Sum.inr (σ, 1)) : Option zRi) (some (μ1, (0 : Int32))) (fun r r' => (¬ zr 0 7 x1 ∧ (∃ s, r = Sum.inr (s, 1)) ∧ zTh 1 r'.1) ∨ (zr 0 7 x1 ∧ (∃ s, r = Sum.inl (s, r'.2)) ∧ zTh 0 r'.1)) := zp2_some (Or.inl ⟨hn, ⟨σ, rfl⟩, by subst e1; exact zTh_own⟩)
    refine zp2_ifl (fun _ => fin) (fun q => zp2_ifl (fun q1 => ?_) (fun _ => fin))
    have r := Int32.le_iff_toInt_le.mp (z_nlt q)
    have r1 := Int32.le_iff_toInt_le.mp q1
    exact absurd ⟨by omega, by omega⟩ hn
end ZJN9
section ZJN10
/-! calls with their equations -/
theorem zok_biE {α : Type} {o : Option (zSt × Int32)} {f : zSt → Int32 → Option α} {Q : zSt × Int32 → Prop} {P : α → Prop} (h : zok o Q) (k : ∀ σ v, o = some (σ, v) → Q (σ, v) → zok (f σ v) P) : zok (zbi o f) P := by
  obtain ⟨a, e, q⟩ := h
  subst e
  exact k a.1 a.2 rfl q
theorem zok_bllE {α : Type} {o : Option (zSt × Int64)} {f : zSt → Int64 → Option α} {Q : zSt × Int64 → Prop} {P : α → Prop} (h : zok o Q) (k : ∀ σ v, o = some (σ, v) → Q (σ, v) → zok (f σ v) P) : zok (zbl o f) P := by
  obtain ⟨a, e, q⟩ := h
  subst e
  exact k a.1 a.2 rfl q
theorem zok_buE {α : Type} {o : Option zSt} {f : zSt → Option α} {Q : zSt → Prop} {P : α → Prop} (h : zok o Q) (k : ∀ σ, o = some σ → Q σ → zok (f σ) P) : zok (zbu o f) P := by
  obtain ⟨a, e, q⟩ := h
  subst e
  exact k a rfl q
theorem zok_bhE {α : Type} {q : Option (zHs × Int32)} {f : (Nat → Int64) → zSt → Int32 → Option α} {Q : zHs × Int32 → Prop} {P : α → Prop} (h : zok q Q) (k : ∀ o σ v, q = some ((o, σ), v) → Q ((o, σ), v) → zok (f o σ v) P) : zok (zbh q f) P := by
  obtain ⟨a, e, r⟩ := h
  subst e
  exact k a.1.1 a.1.2 a.2 rfl r
theorem zh2_st {S : Type} {x : S} {k : Nat} {r : S × Int32} (h : zh2 x k = some r) : r.1 = x := by
  unfold zh2 at h
  split at h
  · cases h; rfl
  · split at h
    · cases h; rfl
    · cases h
theorem zh1_st {S : Type} {n : Nat} {x : S} {k : Nat} {r : S × Int32} (h : zh1 n x k = some r) : r.1 = x := by
  unfold zh1 at h
  split at h
  · cases h; rfl
  · cases h
theorem zp2_hi {β : Type} {o : Nat → Int64} {t : zHs → Nat → Option (zHs × Int32)} {q : Option zRi} {p : Option β} {I : zSt → β → Prop} (ht : ∀ (x : zHs) (k : Nat) (r : zHs × Int32), t x k = some r → r.1 = x) (h : zp2 q p (fun r r' => I (zRis r) r')) : zp2 (zbr q (zhi o t)) p (fun r r' => I r.1.2 r') := by
  intro a b ea eb
  cases q with
  | none => cases ea
  | some r =>
    have i := h r b rfl eb
    have ea : zhi o t r = some a := ea
    rcases r with x | x
    · have ea : some ((vp_updL o 0 x.2.toInt64, x.1), (0 : Int32)) = some a := ea
      cases ea
      exact i
    · have ea : t (o, x.1) x.2 = some a := ea
      have e := ht _ _ _ ea
      rw [e]
      exact i
theorem zp2_hl {β : Type} {o : Nat → Int64} {t : zHs → Nat → Option (zHs × Int32)} {q : Option zRl} {p : Option β} {I : zSt → β → Prop} (ht : ∀ (x : zHs) (k : Nat) (r : zHs × Int32), t x k = some r → r.1 = x) (h : zp2 q p (fun r r' => I (zRls r) r')) : zp2 (zbr q (zhl o t)) p (fun r r' => I r.1.2 r') := by
  intro a b ea eb
  cases q with
  | none => cases ea
  | some r =>
    have i := h r b rfl eb
    have ea : zhl o t r = some a := ea
    rcases r with x | x
    · have ea : some ((vp_updL o 0 x.2, x.1), (0 : Int32)) = some a := ea
      cases ea
      exact i
    · have ea : t (o, x.1) x.2 = some a := ea
      have e := ht _ _ _ ea
      rw [e]
      exact i
theorem zp2_hu {β : Type} {t : zSt → Nat → Option (zSt × Int32)} {q : Option zRu} {p : Option β} {I : zSt → β → Prop} (ht : ∀ (x : zSt) (k : Nat) (r : zSt × Int32), t x k = some r → r.1 = x) (h : zp2 q p (fun r r' => I (zRus r) r')) : zp2 (zbr q (zhu t)) p (fun r r' => I r.1 r') := by
  intro a b ea eb
  cases q with
  | none => cases ea
  | some r =>
    have i := h r b rfl eb
    have ea : zhu t r = some a := ea
    rcases r with x | x
    · have ea : some (x, (0 : Int32)) = some a := ea
      cases ea
      exact i
    · have ea : t x.1 x.2 = some a := ea
      have e := ht _ _ _ ea
      rw [e]
      exact i
theorem zKeC_rfl {σ : zSt} : zKeC σ σ := ⟨rfl, rfl, rfl⟩
theorem zKeM_rfl {μ : zSt} : zKeM μ μ := ⟨rfl, rfl, fun _ _ => rfl⟩
section ZR6
variable {K n k s k' n' s' : Int} {σ μ : zSt} {o : Nat → Int64}
theorem zRM.len (h : zRM K n k s μ) : zr 0 262656 (zgi μ 0 2) ∧ (zgi μ 0 2).toInt = n := by
  obtain ⟨c, G, i, a, b, e0, e1, e2⟩ := h
  exact ⟨rM_0 i.sg 2 (by decide), (i.at 0 (by decide)).trans e0⟩
theorem zRC.len (h : zRC n k s σ) : (zgi σ 1 2).toInt = n ∧ zr 0 512 (σ.1 1 3) ∧ zr 0 262144 (σ.1 1 4) := by
  obtain ⟨H, i, e0, e1, e2⟩ := h
  exact ⟨Eq.trans (i.fz 0 (1, 2) rfl) e0, rC_1 i.sg 3 (by decide), rC_2 i.sg 4 (by decide)⟩
theorem zR6.ofL (a : zRM K n k s μ) (b : zRC n k' s' σ) (h : zR6L n σ μ) : zR6 σ μ := by
  have e : σ.1 1 2 = μ.1 0 2 := Int32.toInt_inj.mp (Eq.trans b.len.1 a.len.2.symm)
  refine ⟨e, ?_⟩
  rw [show (μ.1 0 2).toInt = n from a.len.2]
  exact h
theorem r_feed (h : zR6 σ μ) (a : zRM K n k s μ) {x1 : Int32} {x2 x4 x6 : Int64} : zp2 (fL_feed o σ x1 x2 x4 x6) (fX12_feed μ x1 x2 x4 x6) (fun r r' => zR6 r.1.2 r'.1) := by
  unfold fL_feed
  exact zp2_hi (I := fun s (r' : zSt × Int32) => zR6 s r'.1) (fun _ _ _ h => zh2_st h) (z2_feed h a.len.1)
theorem r_grow (h : zR6 σ μ) (a : zRM K n k s μ) {x1 : Int32} : zp2 (fL_grow o σ x1) (fX12_grow μ x1) (fun r r' => zR6 r.1.2 r'.1) := by
  unfold fL_grow
  exact zp2_hi (I := fun s (r' : zSt × Int32) => zR6 s r'.1) (fun _ _ _ h => zh2_st h) (z2_grow h a.len.1)
theorem r_patch (h : zR6 σ μ) (a : zRM K n k s μ) {x1 : Int32} {x2 : Int64} : zp2 (fL_patch σ x1 x2) (fX12_patch μ x1 x2) (fun r r' => zR6 r.1 r') := by
  unfold fL_patch
  exact zp2_hu (I := fun s r' => zR6 s r') (fun _ _ _ h => zh1_st h) (z2_patch h a.len.1)
/-- card's answers, as the law compares them -/
noncomputable def zCd (x1 : Int32) (r : zHs × Int32) (r' : zSt × Int32) : Prop := zgi r'.1 0 0 = r.2 ∧ (r.2 = 0 → (r.1.1 0).toInt = r'.2.toInt)
theorem r_cardv (h : zR6 σ μ) (b : zRC n k s σ) {x1 : Int32} : zp2 (fL_card o σ x1) (fX12_card μ x1) (zCd x1) := by
  unfold fL_card
  intro a c ea ec
  cases q : fX11_card σ x1 with
  | none => rw [q] at ea; cases ea
  | some r =>
    have i := z2_card h b.len.2.1 b.len.2.2 r c q ec
    rw [q] at ea
    have ea : zhi o (zh1 1) r = some a := ea
    rcases i with ⟨_, ⟨s1, e⟩, t⟩ | ⟨_, ⟨s1, e⟩, t⟩
    · subst e
      have ea : some ((o, s1), (1 : Int32)) = some a := ea
      cases ea
      exact ⟨t, fun z => absurd (show (1 : Int32) = 0 from z) (by decide)⟩
    · subst e
      have ea : some ((vp_updL o 0 c.2.toInt64, s1), (0 : Int32)) = some a := ea
      cases ea
      refine ⟨t, fun _ => ?_⟩
      show (if (0 : Nat) = 0 then c.2.toInt64 else o 0).toInt = _
      rw [if_pos rfl, Int32.toInt_toInt64]
theorem r_card (h : zR6 σ μ) {x1 : Int32} {y1 : Int32} : zp2 (fL_card o σ x1) (fX12_card μ y1) (fun r r' => zR6 (r.1.2) (r'.1)) := by
  unfold fL_card
  exact zp2_hi (I := fun s r' => zR6 s (r'.1)) (fun _ _ _ h => zh1_st h) (zp2_of (w_fX11_card zKeC_rfl) (w_fX12_card zKeM_rfl) (fun _ _ x y => h.keep x y))
theorem r_step (h : zR6 σ μ) {x1 : Int32} {y1 : Int32} : zp2 (fL_step o σ x1) (fX12_step μ y1) (fun r r' => zR6 (r.1.2) (r'.1)) := by
  unfold fL_step
  exact zp2_hi (I := fun s r' => zR6 s (r'.1)) (fun _ _ _ h => zh1_st h) (zp2_of (w_fX11_step zKeC_rfl) (w_fX12_step zKeM_rfl) (fun _ _ x y => h.keep x y))
theorem r_picture (h : zR6 σ μ) {x1 : Int32} {y1 : Int32} : zp2 (fL_picture o σ x1) (fX12_picture μ y1) (fun r r' => zR6 (r.1.2) (r'.1)) := by
  unfold fL_picture
  exact zp2_hi (I := fun s r' => zR6 s (r'.1)) (fun _ _ _ h => zh1_st h) (zp2_of (w_fX11_picture zKeC_rfl) (w_fX12_picture zKeM_rfl) (fun _ _ x y => h.keep x y))
theorem r_reset (h : zR6 σ μ) : zp2 (fX11_reset σ ) (fX12_reset μ ) (fun r r' => zR6 (r) (r')) := zp2_of (w_fX11_reset zKeC_rfl) (w_fX12_reset zKeM_rfl) (fun _ _ x y => h.keep x y)
theorem r_pause (h : zR6 σ μ) : zp2 (fX11_pause σ ) (fX12_pause μ ) (fun r r' => zR6 (r.1) (r'.1)) := zp2_of (w_fX11_pause zKeC_rfl) (w_fX12_pause zKeM_rfl) (fun _ _ x y => h.keep x y)
theorem r_press (h : zR6 σ μ) {x1 : Int32} {x2 : Int32} {y1 : Int32} {y2 : Int32} : zp2 (fL_press σ x1 x2) (fX12_press μ y1 y2) (fun r r' => zR6 (r.1) (r')) := by
  unfold fL_press
  exact zp2_hu (I := fun s r' => zR6 s (r')) (fun _ _ _ h => zh1_st h) (zp2_of (w_fX11_press zKeC_rfl) (w_fX12_press zKeM_rfl) (fun _ _ x y => h.keep x y))
theorem r_start (h : zR6 σ μ) {x1 : Int32} {y1 : Int32} : zp2 (fX11_start σ x1) (fX12_start μ y1) (fun r r' => zR6 (r) (r')) := zp2_of (w_fX11_start zKeC_rfl) (w_fX12_start zKeM_rfl) (fun _ _ x y => h.keep x y)
theorem r_line (h : zR6 σ μ) {x1 : Int32} {x2 : Int32} {y1 : Int32} {y2 : Int32} : zp2 (fL_line σ x1 x2) (fX12_line μ y1 y2) (fun r r' => zR6 (r.1) (r')) := by
  unfold fL_line
  exact zp2_hu (I := fun s r' => zR6 s (r')) (fun _ _ _ h => zh1_st h) (zp2_of (w_fX11_line zKeC_rfl) (w_fX12_line zKeM_rfl) (fun _ _ x y => h.keep x y))
theorem r_plan (h : zR6 σ μ) {x1 : Int32} {x2 : Int32} {x3 : Int32} {y1 : Int32} {y2 : Int32} {y3 : Int32} : zp2 (fL_plan o σ x1 x2 x3) (fX12_plan μ y1 y2 y3) (fun r r' => zR6 (r.1.2) (r'.1)) := by
  unfold fL_plan
  exact zp2_hi (I := fun s r' => zR6 s (r'.1)) (fun _ _ _ h => zh2_st h) (zp2_of (w_fX11_plan zKeC_rfl) (w_fX12_plan zKeM_rfl) (fun _ _ x y => h.keep x y))
theorem r_tell (h : zR6 σ μ) {x1 : Int32} {y1 : Int32} : zp2 (fX11_tell σ x1) (fX12_tell μ y1) (fun r r' => zR6 (r.1) (r'.1)) := zp2_of (w_fX11_tell zKeC_rfl) (w_fX12_tell zKeM_rfl) (fun _ _ x y => h.keep x y)
theorem r_text (h : zR6 σ μ) {x1 : Int32} {y1 : Int32} : zp2 (fL_text o σ x1) (fX12_text μ y1) (fun r r' => zR6 (r.1.2) (r'.1)) := by
  unfold fL_text
  exact zp2_hl (I := fun s r' => zR6 s (r'.1)) (fun _ _ _ h => zh1_st h) (zp2_of (w_fX11_text zKeC_rfl) (w_fX12_text zKeM_rfl) (fun _ _ x y => h.keep x y))
theorem r_stop (h : zR6 σ μ) {x1 : Int32} {x2 : Int32} {y1 : Int32} {y2 : Int32} : zp2 (fL_stop o σ x1 x2) (fX12_stop μ y1 y2) (fun r r' => zR6 (r.1.2) (r'.1)) := by
  unfold fL_stop
  exact zp2_hi (I := fun s r' => zR6 s (r'.1)) (fun _ _ _ h => zh2_st h) (zp2_of (w_fX11_stop zKeC_rfl) (w_fX12_stop zKeM_rfl) (fun _ _ x y => h.keep x y))
theorem r_save (h : zR6 σ μ) : zp2 (fX11_save σ ) (fX12_save μ ) (fun r r' => zR6 (r) (r')) := zp2_of (w_fX11_save zKeC_rfl) (w_fX12_save zKeM_rfl) (fun _ _ x y => h.keep x y)
theorem r_restore (h : zR6 σ μ) : zp2 (fL_restore σ ) (fX12_restore μ ) (fun r r' => zR6 (r.1) (r')) := by
  unfold fL_restore
  exact zp2_hu (I := fun s r' => zR6 s (r')) (fun _ _ _ h => zh1_st h) (zp2_of (w_fX11_restore zKeC_rfl) (w_fX12_restore zKeM_rfl) (fun _ _ x y => h.keep x y))
theorem r_register (h : zR6 σ μ) {x1 : Int32} {y1 : Int32} : zp2 (fL_register o σ x1) (fX12_register μ y1) (fun r r' => zR6 (r.1.2) (r'.1)) := by
  unfold fL_register
  exact zp2_hi (I := fun s r' => zR6 s (r'.1)) (fun _ _ _ h => zh1_st h) (zp2_of (w_fX11_register zKeC_rfl) (w_fX12_register zKeM_rfl) (fun _ _ x y => h.keep x y))
theorem r_set (h : zR6 σ μ) {x1 : Int32} {x2 : Int32} {y1 : Int32} {y2 : Int32} : zp2 (fL_set σ x1 x2) (fX12_set μ y1 y2) (fun r r' => zR6 (r.1) (r')) := by
  unfold fL_set
  exact zp2_hu (I := fun s r' => zR6 s (r')) (fun _ _ _ h => zh1_st h) (zp2_of (w_fX11_set zKeC_rfl) (w_fX12_set zKeM_rfl) (fun _ _ x y => h.keep x y))
theorem r_peek (h : zR6 σ μ) {x1 : Int32} {y1 : Int32} : zp2 (fX11_peek σ x1) (fX12_peek μ y1) (fun r r' => zR6 (r.1) (r'.1)) := zp2_of (w_fX11_peek zKeC_rfl) (w_fX12_peek zKeM_rfl) (fun _ _ x y => h.keep x y)
theorem r_poke (h : zR6 σ μ) {x1 : Int32} {x2 : Int32} {y1 : Int32} {y2 : Int32} : zp2 (fX11_poke σ x1 x2) (fX12_poke μ y1 y2) (fun r r' => zR6 (r) (r')) := zp2_of (w_fX11_poke zKeC_rfl) (w_fX12_poke zKeM_rfl) (fun _ _ x y => h.keep x y)
theorem r_in (h : zR6 σ μ) {x1 : Int32} {y1 : Int32} : zp2 (fX11_in σ x1) (fX12_in μ y1) (fun r r' => zR6 (r.1) (r'.1)) := zp2_of (w_fX11_in zKeC_rfl) (w_fX12_in zKeM_rfl) (fun _ _ x y => h.keep x y)
theorem r_out (h : zR6 σ μ) {x1 : Int32} {x2 : Int32} {y1 : Int32} {y2 : Int32} : zp2 (fX11_out σ x1 x2) (fX12_out μ y1 y2) (fun r r' => zR6 (r) (r')) := zp2_of (w_fX11_out zKeC_rfl) (w_fX12_out zKeM_rfl) (fun _ _ x y => h.keep x y)
theorem r_battery (h : zR6 σ μ) {x1 : Int32} {y1 : Int32} : zp2 (fL_battery o σ x1) (fX12_battery μ y1) (fun r r' => zR6 (r.1.2) (r'.1)) := by
  unfold fL_battery
  exact zp2_hi (I := fun s r' => zR6 s (r'.1)) (fun _ _ _ h => zh1_st h) (zp2_of (w_fX11_battery zKeC_rfl) (w_fX12_battery zKeM_rfl) (fun _ _ x y => h.keep x y))
theorem r_wipe (h : zR6 σ μ) : zp2 (fX11_wipe σ ) (fX12_wipe μ ) (fun r r' => zR6 (r) (r')) := zp2_of (w_fX11_wipe zKeC_rfl) (w_fX12_wipe zKeM_rfl) (fun _ _ x y => h.keep x y)
theorem r_video (h : zR6 σ μ) {x1 : Int32} {y1 : Int32} : zp2 (fX11_video σ x1) (fX12_video μ y1) (fun r r' => zR6 (r.1) (r'.1)) := zp2_of (w_fX11_video zKeC_rfl) (w_fX12_video zKeM_rfl) (fun _ _ x y => h.keep x y)
theorem r_chip (h : zR6 σ μ) {x1 : Int32} {y1 : Int32} : zp2 (fL_chip o σ x1) (fX12_chip μ y1) (fun r r' => zR6 (r.1.2) (r'.1)) := by
  unfold fL_chip
  exact zp2_hi (I := fun s r' => zR6 s (r'.1)) (fun _ _ _ h => zh1_st h) (zp2_of (w_fX11_chip zKeC_rfl) (w_fX12_chip zKeM_rfl) (fun _ _ x y => h.keep x y))
theorem r_dot (h : zR6 σ μ) {x1 : Int32} {x2 : Int32} {y1 : Int32} {y2 : Int32} : zp2 (fL_dot o σ x1 x2) (fX12_dot μ y1 y2) (fun r r' => zR6 (r.1.2) (r'.1)) := by
  unfold fL_dot
  exact zp2_hi (I := fun s r' => zR6 s (r'.1)) (fun _ _ _ h => zh1_st h) (zp2_of (w_fX11_dot zKeC_rfl) (w_fX12_dot zKeM_rfl) (fun _ _ x y => h.keep x y))
theorem r_row (h : zR6 σ μ) {x1 : Int32} {y1 : Int32} : zp2 (fL_row o σ x1) (fX12_row μ y1) (fun r r' => zR6 (r.1.2) (r'.1)) := by
  unfold fL_row
  exact zp2_hi (I := fun s r' => zR6 s (r'.1)) (fun _ _ _ h => zh1_st h) (zp2_of (w_fX11_row zKeC_rfl) (w_fX12_row zKeM_rfl) (fun _ _ x y => h.keep x y))
theorem r_hear (h : zR6 σ μ) : zp2 (fL_hear o σ ) (fX12_hear μ ) (fun r r' => zR6 (r.1.2) (r'.1)) := by
  unfold fL_hear
  exact zp2_hl (I := fun s r' => zR6 s (r'.1)) (fun _ _ _ h => zh1_st h) (zp2_of (w_fX11_hear zKeC_rfl) (w_fX12_hear zKeM_rfl) (fun _ _ x y => h.keep x y))
theorem r_mix (h : zR6 σ μ) : zp2 (fL_mix o σ ) (fX12_mix μ ) (fun r r' => zR6 (r.1.2) (r'.1)) := by
  unfold fL_mix
  exact zp2_hl (I := fun s r' => zR6 s (r'.1)) (fun _ _ _ h => zh1_st h) (zp2_of (w_fX11_mix zKeC_rfl) (w_fX12_mix zKeM_rfl) (fun _ _ x y => h.keep x y))
theorem r_wave (h : zR6 σ μ) {x1 : Int32} {y1 : Int32} : zp2 (fL_wave o σ x1) (fX12_wave μ y1) (fun r r' => zR6 (r.1.2) (r'.1)) := by
  unfold fL_wave
  exact zp2_hi (I := fun s r' => zR6 s (r'.1)) (fun _ _ _ h => zh1_st h) (zp2_of (w_fX11_wave zKeC_rfl) (w_fX12_wave zKeM_rfl) (fun _ _ x y => h.keep x y))
theorem r_sound (h : zR6 σ μ) {x1 : Int32} {y1 : Int32} : zp2 (fL_sound o σ x1) (fX12_sound μ y1) (fun r r' => zR6 (r.1.2) (r'.1)) := by
  unfold fL_sound
  exact zp2_hi (I := fun s r' => zR6 s (r'.1)) (fun _ _ _ h => zh1_st h) (zp2_of (w_fX11_sound zKeC_rfl) (w_fX12_sound zKeM_rfl) (fun _ _ x y => h.keep x y))
theorem r_trace (h : zR6 σ μ) {x1 : Int32} {y1 : Int32} : zp2 (fX11_trace σ x1) (fX12_trace μ y1) (fun r r' => zR6 (r.1) (r'.1)) := zp2_of (w_fX11_trace zKeC_rfl) (w_fX12_trace zKeM_rfl) (fun _ _ x y => h.keep x y)
theorem r_look (h : zR6 σ μ) {x1 : Int32} {y1 : Int32} : zp2 (fL_look o σ x1) (fX12_look μ y1) (fun r r' => zR6 (r.1.2) (r'.1)) := by
  unfold fL_look
  exact zp2_hl (I := fun s r' => zR6 s (r'.1)) (fun _ _ _ h => zh1_st h) (zp2_of (w_fX11_look zKeC_rfl) (w_fX12_look zKeM_rfl) (fun _ _ x y => h.keep x y))
end ZR6
end ZJN10
section ZJN11
theorem q_fLaw_208 {K n k s h : Int} {xs : Nat → Int32} {L : Nat} {kn : zSt → (Nat → Int64) → zSt → Int32 → Option Int32} {μ σ : zSt} {o : Nat → Int64} {x4 : Int32} (hM : zRM K n k s μ) (hC : zRC n h s σ) (hR : zR6 σ μ) (hb : K + 2100000 ≤ 268435456) (hz : ∀ j : Int32, 0 ≤ j.toInt → j.toInt ≤ 7 → zin (x4 + j) L = true) (hK : ∀ (μ1 : zSt) (o1 : Nat → Int64) (σ1 : zSt) (n s : Int), zRM (K + 2100000) n k s μ1 → zRC n h s σ1 → zR6 σ1 μ1 → zok (kn μ1 o1 σ1 (x4 + 8)) (fun r => r = 1)) : zok (fLaw_208 xs L kn μ o σ x4) (fun r => r = 1) := by
  unfold fLaw_208
  refine zok_ck (hz 1 (by decide) (by decide)) ?_
  refine zok_ck (hz 2 (by decide) (by decide)) ?_
  refine zok_ck (hz 3 (by decide) (by decide)) ?_
  refine zok_ck (hz 4 (by decide) (by decide)) ?_
  refine zok_ck (hz 5 (by decide) (by decide)) ?_
  refine zok_ck (hz 6 (by decide) (by decide)) ?_
  refine zok_ck (hz 7 (by decide) (by decide)) ?_
  refine zok_bhE (l_feedx hC) (fun o3 s4 _ e2 p1 => ?_)
  refine zok_ck (hz 1 (by decide) (by decide)) ?_
  refine zok_ck (hz 2 (by decide) (by decide)) ?_
  refine zok_ck (hz 3 (by decide) (by decide)) ?_
  refine zok_ck (hz 4 (by decide) (by decide)) ?_
  refine zok_ck (hz 5 (by decide) (by decide)) ?_
  refine zok_ck (hz 6 (by decide) (by decide)) ?_
  refine zok_ck (hz 7 (by decide) (by decide)) ?_
  refine zok_biE (m_feedx hM) (fun s7 _ e6 p5 => ?_)
  obtain ⟨_, ⟨_, c8, m9⟩, _⟩ := zBr.both p1 p5
  have R6 := r_feed hR hM _ _ e2 e6
  refine zok_bv (fun v8 e8 => ?_)
  subst e8
  exact hK _ _ _ _ _ (zRM.mono m9 (by omega) hb) c8 R6
theorem q_fLaw_372 {K n k s h : Int} {xs : Nat → Int32} {L : Nat} {kn : zSt → (Nat → Int64) → zSt → Int32 → Option Int32} {μ σ : zSt} {o : Nat → Int64} {x4 : Int32} (hM : zRM K n k s μ) (hC : zRC n h s σ) (hR : zR6 σ μ) (hb : K + 2100000 ≤ 268435456) (hz : ∀ j : Int32, 0 ≤ j.toInt → j.toInt ≤ 7 → zin (x4 + j) L = true) (hK : ∀ (μ1 : zSt) (o1 : Nat → Int64) (σ1 : zSt) (n s : Int), zRM (K + 2100000) n k s μ1 → zRC n h s σ1 → zR6 σ1 μ1 → zok (kn μ1 o1 σ1 (x4 + 8)) (fun r => r = 1)) : zok (fLaw_372 xs L kn μ o σ x4) (fun r => r = 1) := by
  unfold fLaw_372
  refine zok_ck (hz 1 (by decide) (by decide)) ?_
  refine zok_bhE (l_growx hC) (fun o3 s4 _ e2 p1 => ?_)
  refine zok_ck (hz 1 (by decide) (by decide)) ?_
  refine zok_biE (m_growx hM) (fun s7 _ e6 p5 => ?_)
  obtain ⟨_, ⟨_, c8, m9⟩, _⟩ := zBr.both p1 p5
  have R6 := r_grow hR hM _ _ e2 e6
  refine zok_bv (fun v8 e8 => ?_)
  subst e8
  exact hK _ _ _ _ _ (zRM.mono m9 (by omega) hb) c8 R6
theorem q_fLaw_400 {K n k s h : Int} {xs : Nat → Int32} {L : Nat} {kn : zSt → (Nat → Int64) → zSt → Int32 → Option Int32} {μ σ : zSt} {o : Nat → Int64} {x4 : Int32} (hM : zRM K n k s μ) (hC : zRC n h s σ) (hR : zR6 σ μ) (hb : K + 2100000 ≤ 268435456) (hz : ∀ j : Int32, 0 ≤ j.toInt → j.toInt ≤ 7 → zin (x4 + j) L = true) (hK : ∀ (μ1 : zSt) (o1 : Nat → Int64) (σ1 : zSt) (n s : Int), zRM (K + 2100000) n k s μ1 → zRC n h s σ1 → zR6 σ1 μ1 → zok (kn μ1 o1 σ1 (x4 + 8)) (fun r => r = 1)) : zok (fLaw_400 xs L kn μ o σ x4) (fun r => r = 1) := by
  unfold fLaw_400
  refine zok_ck (hz 1 (by decide) (by decide)) ?_
  refine zok_ck (hz 2 (by decide) (by decide)) ?_
  refine zok_ck (hz 3 (by decide) (by decide)) ?_
  refine zok_biE (l_patchx hC) (fun s3 _ e2 p1 => ?_)
  refine zok_ck (hz 1 (by decide) (by decide)) ?_
  refine zok_ck (hz 2 (by decide) (by decide)) ?_
  refine zok_ck (hz 3 (by decide) (by decide)) ?_
  refine zok_buE (m_patchx hM) (fun s6 e5 p4 => ?_)
  have R6 := r_patch hR hM _ _ e2 e5
  refine zok_bv (fun v8 e8 => ?_)
  subst e8
  exact hK _ _ _ _ _ (zRM.mono p4.1 (by omega) hb) p1.1 R6
theorem q_fLaw_469 {K n k s h : Int} {xs : Nat → Int32} {L : Nat} {kn : zSt → (Nat → Int64) → zSt → Int32 → Option Int32} {μ σ : zSt} {o : Nat → Int64} {x4 : Int32} (hM : zRM K n k s μ) (hC : zRC n h s σ) (hR : zR6 σ μ) (hb : K + 2100000 ≤ 268435456) (hz : ∀ j : Int32, 0 ≤ j.toInt → j.toInt ≤ 7 → zin (x4 + j) L = true) (hK : ∀ (μ1 : zSt) (o1 : Nat → Int64) (σ1 : zSt) (n s : Int), zRM (K + 2100000) n k s μ1 → zRC n h s σ1 → zR6 σ1 μ1 → zok (kn μ1 o1 σ1 (x4 + 8)) (fun r => r = 1)) : zok (fLaw_469 xs L kn μ o σ x4) (fun r => r = 1) := by
  unfold fLaw_469
  refine zok_biE (c_loadx hC) (fun s3 _ e2 p1 => ?_)
  refine zok_biE (m_loadx hM) (fun s6 _ e5 p4 => ?_)
  obtain ⟨e9, _, c7, m8⟩ := zLo.both p1 p4
  have R6 := zR6.ofL m8 c7 (z2_load hR hM.len.1 _ _ e2 e5 e9)
  refine zok_bv (fun v8 e8 => ?_)
  subst e8
  exact hK _ _ _ _ _ (zRM.mono m8 (by omega) hb) c7 R6
theorem q_fLaw_482 {K n k s h : Int} {xs : Nat → Int32} {L : Nat} {kn : zSt → (Nat → Int64) → zSt → Int32 → Option Int32} {μ σ : zSt} {o : Nat → Int64} {x4 : Int32} (hM : zRM K n k s μ) (hC : zRC n h s σ) (hR : zR6 σ μ) (hb : K + 2100000 ≤ 268435456) (hz : ∀ j : Int32, 0 ≤ j.toInt → j.toInt ≤ 7 → zin (x4 + j) L = true) (hK : ∀ (μ1 : zSt) (o1 : Nat → Int64) (σ1 : zSt) (n s : Int), zRM (K + 2100000) n k s μ1 → zRC n h s σ1 → zR6 σ1 μ1 → zok (kn μ1 o1 σ1 (x4 + 8)) (fun r => r = 1)) : zok (fLaw_482 xs L kn μ o σ x4) (fun r => r = 1) := by
  unfold fLaw_482
  refine zok_ck (hz 1 (by decide) (by decide)) ?_
  refine zok_bhE (l_card hC) (fun o3 s4 _ e2 p1 => ?_)
  refine zok_ck (hz 1 (by decide) (by decide)) ?_
  refine zok_biE (m_card hM) (fun s7 _ e6 p5 => ?_)
  have R6 := r_card hR _ _ e2 e6
  have d8 := r_cardv hR hC _ _ e2 e6
  refine zok_thrown ?_
  refine zok_if (fun _ => ?_) (fun q => absurd d8.1 q)
  refine zok_if (fun q9 => ?_) (fun q9 => ?_)
  · refine zok_if (fun _ => ?_) (fun q => absurd (z_lgc (by rw [Int32.toInt_toInt64]; exact d8.2 q9)) q)
    refine zok_bv (fun v8 e8 => ?_)
    subst e8
    exact hK _ _ _ _ _ (zRM.mono p5 (by omega) hb) p1 R6
  · refine zok_bv (fun v8 e8 => ?_)
    subst e8
    exact hK _ _ _ _ _ (zRM.mono p5 (by omega) hb) p1 R6
theorem q_fLaw_538 {K n k s h : Int} {xs : Nat → Int32} {L : Nat} {kn : zSt → (Nat → Int64) → zSt → Int32 → Option Int32} {μ σ : zSt} {o : Nat → Int64} {x4 : Int32} (hM : zRM K n k s μ) (hC : zRC n h s σ) (hR : zR6 σ μ) (hb : K + 2100000 ≤ 268435456) (hz : ∀ j : Int32, 0 ≤ j.toInt → j.toInt ≤ 7 → zin (x4 + j) L = true) (hK : ∀ (μ1 : zSt) (o1 : Nat → Int64) (σ1 : zSt) (n s : Int), zRM (K + 2100000) n k s μ1 → zRC n h s σ1 → zR6 σ1 μ1 → zok (kn μ1 o1 σ1 (x4 + 8)) (fun r => r = 1)) : zok (fLaw_538 xs L kn μ o σ x4) (fun r => r = 1) := by
  unfold fLaw_538
  refine zok_ck (hz 1 (by decide) (by decide)) ?_
  refine zok_bhE (l_step hC) (fun o3 s4 _ e2 p1 => ?_)
  refine zok_ck (hz 1 (by decide) (by decide)) ?_
  refine zok_biE (m_step hM hb) (fun s7 _ e6 p5 => ?_)
  have R6 := r_step hR _ _ e2 e6
  refine zok_bv (fun v8 e8 => ?_)
  subst e8
  exact hK _ _ _ _ _ p5 p1 R6
theorem q_fLaw_566 {K n k s h : Int} {xs : Nat → Int32} {L : Nat} {kn : zSt → (Nat → Int64) → zSt → Int32 → Option Int32} {μ σ : zSt} {o : Nat → Int64} {x4 : Int32} (hM : zRM K n k s μ) (hC : zRC n h s σ) (hR : zR6 σ μ) (hb : K + 2100000 ≤ 268435456) (hz : ∀ j : Int32, 0 ≤ j.toInt → j.toInt ≤ 7 → zin (x4 + j) L = true) (hK : ∀ (μ1 : zSt) (o1 : Nat → Int64) (σ1 : zSt) (n s : Int), zRM (K + 2100000) n k s μ1 → zRC n h s σ1 → zR6 σ1 μ1 → zok (kn μ1 o1 σ1 (x4 + 8)) (fun r => r = 1)) : zok (fLaw_566 xs L kn μ o σ x4) (fun r => r = 1) := by
  unfold fLaw_566
  refine zok_ck (hz 1 (by decide) (by decide)) ?_
  refine zok_bhE (l_picture hC) (fun o3 s4 _ e2 p1 => ?_)
  refine zok_ck (hz 1 (by decide) (by decide)) ?_
  refine zok_biE (m_picture hM hb) (fun s7 _ e6 p5 => ?_)
  have R6 := r_picture hR _ _ e2 e6
  refine zok_bv (fun v8 e8 => ?_)
  subst e8
  exact hK _ _ _ _ _ p5 p1 R6
theorem q_fLaw_594 {K n k s h : Int} {xs : Nat → Int32} {L : Nat} {kn : zSt → (Nat → Int64) → zSt → Int32 → Option Int32} {μ σ : zSt} {o : Nat → Int64} {x4 : Int32} (hM : zRM K n k s μ) (hC : zRC n h s σ) (hR : zR6 σ μ) (hb : K + 2100000 ≤ 268435456) (hz : ∀ j : Int32, 0 ≤ j.toInt → j.toInt ≤ 7 → zin (x4 + j) L = true) (hK : ∀ (μ1 : zSt) (o1 : Nat → Int64) (σ1 : zSt) (n s : Int), zRM (K + 2100000) n k s μ1 → zRC n h s σ1 → zR6 σ1 μ1 → zok (kn μ1 o1 σ1 (x4 + 8)) (fun r => r = 1)) : zok (fLaw_594 xs L kn μ o σ x4) (fun r => r = 1) := by
  unfold fLaw_594
  refine zok_buE (c_reset hC) (fun s3 e2 p1 => ?_)
  refine zok_buE (m_reset hM) (fun s6 e5 p4 => ?_)
  have R6 := r_reset hR _ _ e2 e5
  refine zok_bv (fun v8 e8 => ?_)
  subst e8
  exact hK _ _ _ _ _ (zRM.mono p4 (by omega) hb) p1 R6
theorem q_fLaw_605 {K n k s h : Int} {xs : Nat → Int32} {L : Nat} {kn : zSt → (Nat → Int64) → zSt → Int32 → Option Int32} {μ σ : zSt} {o : Nat → Int64} {x4 : Int32} (hM : zRM K n k s μ) (hC : zRC n h s σ) (hR : zR6 σ μ) (hb : K + 2100000 ≤ 268435456) (hz : ∀ j : Int32, 0 ≤ j.toInt → j.toInt ≤ 7 → zin (x4 + j) L = true) (hK : ∀ (μ1 : zSt) (o1 : Nat → Int64) (σ1 : zSt) (n s : Int), zRM (K + 2100000) n k s μ1 → zRC n h s σ1 → zR6 σ1 μ1 → zok (kn μ1 o1 σ1 (x4 + 8)) (fun r => r = 1)) : zok (fLaw_605 xs L kn μ o σ x4) (fun r => r = 1) := by
  unfold fLaw_605
  refine zok_biE (c_pause hC) (fun s3 _ e2 p1 => ?_)
  refine zok_biE (m_pause hM) (fun s6 _ e5 p4 => ?_)
  have R6 := r_pause hR _ _ e2 e5
  refine zok_bv (fun v8 e8 => ?_)
  subst e8
  exact hK _ _ _ _ _ (zRM.mono p4 (by omega) hb) p1 R6
theorem q_fLaw_618 {K n k s h : Int} {xs : Nat → Int32} {L : Nat} {kn : zSt → (Nat → Int64) → zSt → Int32 → Option Int32} {μ σ : zSt} {o : Nat → Int64} {x4 : Int32} (hM : zRM K n k s μ) (hC : zRC n h s σ) (hR : zR6 σ μ) (hb : K + 2100000 ≤ 268435456) (hz : ∀ j : Int32, 0 ≤ j.toInt → j.toInt ≤ 7 → zin (x4 + j) L = true) (hK : ∀ (μ1 : zSt) (o1 : Nat → Int64) (σ1 : zSt) (n s : Int), zRM (K + 2100000) n k s μ1 → zRC n h s σ1 → zR6 σ1 μ1 → zok (kn μ1 o1 σ1 (x4 + 8)) (fun r => r = 1)) : zok (fLaw_618 xs L kn μ o σ x4) (fun r => r = 1) := by
  unfold fLaw_618
  refine zok_ck (hz 1 (by decide) (by decide)) ?_
  refine zok_ck (hz 2 (by decide) (by decide)) ?_
  refine zok_biE (l_press hC) (fun s3 _ e2 p1 => ?_)
  refine zok_ck (hz 1 (by decide) (by decide)) ?_
  refine zok_ck (hz 2 (by decide) (by decide)) ?_
  refine zok_buE (m_press hM) (fun s6 e5 p4 => ?_)
  have R6 := r_press hR _ _ e2 e5
  refine zok_bv (fun v8 e8 => ?_)
  subst e8
  exact hK _ _ _ _ _ (zRM.mono p4 (by omega) hb) p1 R6
theorem q_fLaw_655 {K n k s h : Int} {xs : Nat → Int32} {L : Nat} {kn : zSt → (Nat → Int64) → zSt → Int32 → Option Int32} {μ σ : zSt} {o : Nat → Int64} {x4 : Int32} (hM : zRM K n k s μ) (hC : zRC n h s σ) (hR : zR6 σ μ) (hb : K + 2100000 ≤ 268435456) (hz : ∀ j : Int32, 0 ≤ j.toInt → j.toInt ≤ 7 → zin (x4 + j) L = true) (hK : ∀ (μ1 : zSt) (o1 : Nat → Int64) (σ1 : zSt) (n s : Int), zRM (K + 2100000) n k s μ1 → zRC n h s σ1 → zR6 σ1 μ1 → zok (kn μ1 o1 σ1 (x4 + 8)) (fun r => r = 1)) : zok (fLaw_655 xs L kn μ o σ x4) (fun r => r = 1) := by
  unfold fLaw_655
  refine zok_ck (hz 1 (by decide) (by decide)) ?_
  refine zok_if (fun q1 => ?_) (fun q1 => ?_)
  · refine zok_buE (c_start hC (zr_c (by decide))) (fun s4 e3 p2 => ?_)
    refine zok_ck (hz 1 (by decide) (by decide)) ?_
    refine zok_if (fun q5 => ?_) (fun q5 => ?_)
    · refine zok_buE (m_start hM (zr_c (by decide))) (fun s8 e7 p6 => ?_)
      have R6 := r_start hR _ _ e3 e7
      refine zok_bv (fun v8 e8 => ?_)
      subst e8
      exact hK _ _ _ _ _ (zRM.mono p6 (by omega) hb) p2 R6
    · refine zok_buE (m_start hM (zr_c (by decide))) (fun s11 e10 p9 => ?_)
      have R6 := r_start hR _ _ e3 e10
      refine zok_bv (fun v8 e8 => ?_)
      subst e8
      exact hK _ _ _ _ _ (zRM.mono p9 (by omega) hb) p2 R6
  · refine zok_buE (c_start hC (zr_c (by decide))) (fun s14 e13 p12 => ?_)
    refine zok_ck (hz 1 (by decide) (by decide)) ?_
    refine zok_if (fun q15 => ?_) (fun q15 => ?_)
    · refine zok_buE (m_start hM (zr_c (by decide))) (fun s18 e17 p16 => ?_)
      have R6 := r_start hR _ _ e13 e17
      refine zok_bv (fun v8 e8 => ?_)
      subst e8
      exact hK _ _ _ _ _ (zRM.mono p16 (by omega) hb) p12 R6
    · refine zok_buE (m_start hM (zr_c (by decide))) (fun s21 e20 p19 => ?_)
      have R6 := r_start hR _ _ e13 e20
      refine zok_bv (fun v8 e8 => ?_)
      subst e8
      exact hK _ _ _ _ _ (zRM.mono p19 (by omega) hb) p12 R6
theorem q_fLaw_694 {K n k s h : Int} {xs : Nat → Int32} {L : Nat} {kn : zSt → (Nat → Int64) → zSt → Int32 → Option Int32} {μ σ : zSt} {o : Nat → Int64} {x4 : Int32} (hM : zRM K n k s μ) (hC : zRC n h s σ) (hR : zR6 σ μ) (hb : K + 2100000 ≤ 268435456) (hz : ∀ j : Int32, 0 ≤ j.toInt → j.toInt ≤ 7 → zin (x4 + j) L = true) (hK : ∀ (μ1 : zSt) (o1 : Nat → Int64) (σ1 : zSt) (n s : Int), zRM (K + 2100000) n k s μ1 → zRC n h s σ1 → zR6 σ1 μ1 → zok (kn μ1 o1 σ1 (x4 + 8)) (fun r => r = 1)) : zok (fLaw_694 xs L kn μ o σ x4) (fun r => r = 1) := by
  unfold fLaw_694
  refine zok_ck (hz 1 (by decide) (by decide)) ?_
  refine zok_ck (hz 2 (by decide) (by decide)) ?_
  refine zok_if (fun q1 => ?_) (fun q1 => ?_)
  · refine zok_biE (l_line hC (zr_c (by decide))) (fun s4 _ e3 p2 => ?_)
    refine zok_ck (hz 1 (by decide) (by decide)) ?_
    refine zok_ck (hz 2 (by decide) (by decide)) ?_
    refine zok_if (fun q5 => ?_) (fun q5 => ?_)
    · refine zok_buE (m_line hM (zr_c (by decide))) (fun s8 e7 p6 => ?_)
      have R6 := r_line hR _ _ e3 e7
      refine zok_bv (fun v8 e8 => ?_)
      subst e8
      exact hK _ _ _ _ _ (zRM.mono p6 (by omega) hb) p2 R6
    · refine zok_buE (m_line hM (zr_c (by decide))) (fun s11 e10 p9 => ?_)
      have R6 := r_line hR _ _ e3 e10
      refine zok_bv (fun v8 e8 => ?_)
      subst e8
      exact hK _ _ _ _ _ (zRM.mono p9 (by omega) hb) p2 R6
  · refine zok_biE (l_line hC (zr_c (by decide))) (fun s14 _ e13 p12 => ?_)
    refine zok_ck (hz 1 (by decide) (by decide)) ?_
    refine zok_ck (hz 2 (by decide) (by decide)) ?_
    refine zok_if (fun q15 => ?_) (fun q15 => ?_)
    · refine zok_buE (m_line hM (zr_c (by decide))) (fun s18 e17 p16 => ?_)
      have R6 := r_line hR _ _ e13 e17
      refine zok_bv (fun v8 e8 => ?_)
      subst e8
      exact hK _ _ _ _ _ (zRM.mono p16 (by omega) hb) p12 R6
    · refine zok_buE (m_line hM (zr_c (by decide))) (fun s21 e20 p19 => ?_)
      have R6 := r_line hR _ _ e13 e20
      refine zok_bv (fun v8 e8 => ?_)
      subst e8
      exact hK _ _ _ _ _ (zRM.mono p19 (by omega) hb) p12 R6
theorem q_fLaw_747 {K n k s h : Int} {xs : Nat → Int32} {L : Nat} {kn : zSt → (Nat → Int64) → zSt → Int32 → Option Int32} {μ σ : zSt} {o : Nat → Int64} {x4 : Int32} (hM : zRM K n k s μ) (hC : zRC n h s σ) (hR : zR6 σ μ) (hb : K + 2100000 ≤ 268435456) (hz : ∀ j : Int32, 0 ≤ j.toInt → j.toInt ≤ 7 → zin (x4 + j) L = true) (hK : ∀ (μ1 : zSt) (o1 : Nat → Int64) (σ1 : zSt) (n s : Int), zRM (K + 2100000) n k s μ1 → zRC n h s σ1 → zR6 σ1 μ1 → zok (kn μ1 o1 σ1 (x4 + 8)) (fun r => r = 1)) : zok (fLaw_747 xs L kn μ o σ x4) (fun r => r = 1) := by
  unfold fLaw_747
  refine zok_ck (hz 1 (by decide) (by decide)) ?_
  refine zok_ck (hz 2 (by decide) (by decide)) ?_
  refine zok_ck (hz 3 (by decide) (by decide)) ?_
  refine zok_bhE (l_plan hC) (fun o3 s4 _ e2 p1 => ?_)
  refine zok_ck (hz 1 (by decide) (by decide)) ?_
  refine zok_ck (hz 2 (by decide) (by decide)) ?_
  refine zok_ck (hz 3 (by decide) (by decide)) ?_
  refine zok_biE (m_plan hM) (fun s7 _ e6 p5 => ?_)
  have R6 := r_plan hR _ _ e2 e6
  refine zok_bv (fun v8 e8 => ?_)
  subst e8
  exact hK _ _ _ _ _ (zRM.mono p5 (by omega) hb) p1 R6
theorem q_fLaw_799 {K n k s h : Int} {xs : Nat → Int32} {L : Nat} {kn : zSt → (Nat → Int64) → zSt → Int32 → Option Int32} {μ σ : zSt} {o : Nat → Int64} {x4 : Int32} (hM : zRM K n k s μ) (hC : zRC n h s σ) (hR : zR6 σ μ) (hb : K + 2100000 ≤ 268435456) (hz : ∀ j : Int32, 0 ≤ j.toInt → j.toInt ≤ 7 → zin (x4 + j) L = true) (hK : ∀ (μ1 : zSt) (o1 : Nat → Int64) (σ1 : zSt) (n s : Int), zRM (K + 2100000) n k s μ1 → zRC n h s σ1 → zR6 σ1 μ1 → zok (kn μ1 o1 σ1 (x4 + 8)) (fun r => r = 1)) : zok (fLaw_799 xs L kn μ o σ x4) (fun r => r = 1) := by
  unfold fLaw_799
  refine zok_ck (hz 1 (by decide) (by decide)) ?_
  refine zok_biE (c_tell hC) (fun s3 _ e2 p1 => ?_)
  refine zok_ck (hz 1 (by decide) (by decide)) ?_
  refine zok_biE (m_tell hM) (fun s6 _ e5 p4 => ?_)
  have R6 := r_tell hR _ _ e2 e5
  refine zok_bv (fun v8 e8 => ?_)
  subst e8
  exact hK _ _ _ _ _ (zRM.mono p4 (by omega) hb) p1 R6
theorem q_fLaw_824 {K n k s h : Int} {xs : Nat → Int32} {L : Nat} {kn : zSt → (Nat → Int64) → zSt → Int32 → Option Int32} {μ σ : zSt} {o : Nat → Int64} {x4 : Int32} (hM : zRM K n k s μ) (hC : zRC n h s σ) (hR : zR6 σ μ) (hb : K + 2100000 ≤ 268435456) (hz : ∀ j : Int32, 0 ≤ j.toInt → j.toInt ≤ 7 → zin (x4 + j) L = true) (hK : ∀ (μ1 : zSt) (o1 : Nat → Int64) (σ1 : zSt) (n s : Int), zRM (K + 2100000) n k s μ1 → zRC n h s σ1 → zR6 σ1 μ1 → zok (kn μ1 o1 σ1 (x4 + 8)) (fun r => r = 1)) : zok (fLaw_824 xs L kn μ o σ x4) (fun r => r = 1) := by
  unfold fLaw_824
  refine zok_ck (hz 1 (by decide) (by decide)) ?_
  refine zok_bhE (l_text hC) (fun o3 s4 _ e2 p1 => ?_)
  refine zok_ck (hz 1 (by decide) (by decide)) ?_
  refine zok_bllE (m_text hM) (fun s7 _ e6 p5 => ?_)
  have R6 := r_text hR _ _ e2 e6
  refine zok_bv (fun v8 e8 => ?_)
  subst e8
  exact hK _ _ _ _ _ (zRM.mono p5 (by omega) hb) p1 R6
theorem q_fLaw_852 {K n k s h : Int} {xs : Nat → Int32} {L : Nat} {kn : zSt → (Nat → Int64) → zSt → Int32 → Option Int32} {μ σ : zSt} {o : Nat → Int64} {x4 : Int32} (hM : zRM K n k s μ) (hC : zRC n h s σ) (hR : zR6 σ μ) (hb : K + 2100000 ≤ 268435456) (hz : ∀ j : Int32, 0 ≤ j.toInt → j.toInt ≤ 7 → zin (x4 + j) L = true) (hK : ∀ (μ1 : zSt) (o1 : Nat → Int64) (σ1 : zSt) (n s : Int), zRM (K + 2100000) n k s μ1 → zRC n h s σ1 → zR6 σ1 μ1 → zok (kn μ1 o1 σ1 (x4 + 8)) (fun r => r = 1)) : zok (fLaw_852 xs L kn μ o σ x4) (fun r => r = 1) := by
  unfold fLaw_852
  refine zok_ck (hz 1 (by decide) (by decide)) ?_
  refine zok_ck (hz 2 (by decide) (by decide)) ?_
  refine zok_if (fun q1 => ?_) (fun q1 => ?_)
  · refine zok_bhE (l_stop hC (zr_c (by decide))) (fun o4 s5 _ e3 p2 => ?_)
    refine zok_ck (hz 1 (by decide) (by decide)) ?_
    refine zok_ck (hz 2 (by decide) (by decide)) ?_
    refine zok_if (fun q6 => ?_) (fun q6 => ?_)
    · refine zok_biE (m_stop hM (zr_c (by decide))) (fun s9 _ e8 p7 => ?_)
      have R6 := r_stop hR _ _ e3 e8
      refine zok_bv (fun v8 e8 => ?_)
      subst e8
      exact hK _ _ _ _ _ (zRM.mono p7 (by omega) hb) p2 R6
    · refine zok_biE (m_stop hM (zr_c (by decide))) (fun s12 _ e11 p10 => ?_)
      have R6 := r_stop hR _ _ e3 e11
      refine zok_bv (fun v8 e8 => ?_)
      subst e8
      exact hK _ _ _ _ _ (zRM.mono p10 (by omega) hb) p2 R6
  · refine zok_bhE (l_stop hC (zr_c (by decide))) (fun o15 s16 _ e14 p13 => ?_)
    refine zok_ck (hz 1 (by decide) (by decide)) ?_
    refine zok_ck (hz 2 (by decide) (by decide)) ?_
    refine zok_if (fun q17 => ?_) (fun q17 => ?_)
    · refine zok_biE (m_stop hM (zr_c (by decide))) (fun s20 _ e19 p18 => ?_)
      have R6 := r_stop hR _ _ e14 e19
      refine zok_bv (fun v8 e8 => ?_)
      subst e8
      exact hK _ _ _ _ _ (zRM.mono p18 (by omega) hb) p13 R6
    · refine zok_biE (m_stop hM (zr_c (by decide))) (fun s23 _ e22 p21 => ?_)
      have R6 := r_stop hR _ _ e14 e22
      refine zok_bv (fun v8 e8 => ?_)
      subst e8
      exact hK _ _ _ _ _ (zRM.mono p21 (by omega) hb) p13 R6
theorem q_fLaw_908 {K n k s h : Int} {xs : Nat → Int32} {L : Nat} {kn : zSt → (Nat → Int64) → zSt → Int32 → Option Int32} {μ σ : zSt} {o : Nat → Int64} {x4 : Int32} (hM : zRM K n k s μ) (hC : zRC n h s σ) (hR : zR6 σ μ) (hb : K + 2100000 ≤ 268435456) (hz : ∀ j : Int32, 0 ≤ j.toInt → j.toInt ≤ 7 → zin (x4 + j) L = true) (hK : ∀ (μ1 : zSt) (o1 : Nat → Int64) (σ1 : zSt) (n s : Int), zRM (K + 2100000) n k s μ1 → zRC n h s σ1 → zR6 σ1 μ1 → zok (kn μ1 o1 σ1 (x4 + 8)) (fun r => r = 1)) : zok (fLaw_908 xs L kn μ o σ x4) (fun r => r = 1) := by
  unfold fLaw_908
  refine zok_buE (c_savex hC) (fun s3 e2 p1 => ?_)
  refine zok_buE (m_save hM) (fun s6 e5 p4 => ?_)
  have R6 := r_save hR _ _ e2 e5
  refine zok_bv (fun v8 e8 => ?_)
  subst e8
  exact hK _ _ _ _ _ (zRM.mono p4 (by omega) hb) p1 R6
theorem q_fLaw_919 {K n k s h : Int} {xs : Nat → Int32} {L : Nat} {kn : zSt → (Nat → Int64) → zSt → Int32 → Option Int32} {μ σ : zSt} {o : Nat → Int64} {x4 : Int32} (hM : zRM K n k s μ) (hC : zRC n h s σ) (hR : zR6 σ μ) (hb : K + 2100000 ≤ 268435456) (hz : ∀ j : Int32, 0 ≤ j.toInt → j.toInt ≤ 7 → zin (x4 + j) L = true) (hK : ∀ (μ1 : zSt) (o1 : Nat → Int64) (σ1 : zSt) (n s : Int), zRM (K + 2100000) n k s μ1 → zRC n h s σ1 → zR6 σ1 μ1 → zok (kn μ1 o1 σ1 (x4 + 8)) (fun r => r = 1)) : zok (fLaw_919 xs L kn μ o σ x4) (fun r => r = 1) := by
  unfold fLaw_919
  refine zok_biE (l_restorex hC) (fun s3 _ e2 p1 => ?_)
  refine zok_buE (m_restorex hM) (fun s6 e5 p4 => ?_)
  have R6 := r_restore hR _ _ e2 e5
  refine zok_bv (fun v8 e8 => ?_)
  subst e8
  exact hK _ _ _ _ _ (zRM.mono p4.1 (by omega) hb) p1.1 R6
theorem q_fLaw_932 {K n k s h : Int} {xs : Nat → Int32} {L : Nat} {kn : zSt → (Nat → Int64) → zSt → Int32 → Option Int32} {μ σ : zSt} {o : Nat → Int64} {x4 : Int32} (hM : zRM K n k s μ) (hC : zRC n h s σ) (hR : zR6 σ μ) (hb : K + 2100000 ≤ 268435456) (hz : ∀ j : Int32, 0 ≤ j.toInt → j.toInt ≤ 7 → zin (x4 + j) L = true) (hK : ∀ (μ1 : zSt) (o1 : Nat → Int64) (σ1 : zSt) (n s : Int), zRM (K + 2100000) n k s μ1 → zRC n h s σ1 → zR6 σ1 μ1 → zok (kn μ1 o1 σ1 (x4 + 8)) (fun r => r = 1)) : zok (fLaw_932 xs L kn μ o σ x4) (fun r => r = 1) := by
  unfold fLaw_932
  refine zok_ck (hz 1 (by decide) (by decide)) ?_
  refine zok_bhE (l_register hC) (fun o3 s4 _ e2 p1 => ?_)
  refine zok_ck (hz 1 (by decide) (by decide)) ?_
  refine zok_biE (m_register hM) (fun s7 _ e6 p5 => ?_)
  have R6 := r_register hR _ _ e2 e6
  refine zok_bv (fun v8 e8 => ?_)
  subst e8
  exact hK _ _ _ _ _ (zRM.mono p5 (by omega) hb) p1 R6
theorem q_fLaw_960 {K n k s h : Int} {xs : Nat → Int32} {L : Nat} {kn : zSt → (Nat → Int64) → zSt → Int32 → Option Int32} {μ σ : zSt} {o : Nat → Int64} {x4 : Int32} (hM : zRM K n k s μ) (hC : zRC n h s σ) (hR : zR6 σ μ) (hb : K + 2100000 ≤ 268435456) (hz : ∀ j : Int32, 0 ≤ j.toInt → j.toInt ≤ 7 → zin (x4 + j) L = true) (hK : ∀ (μ1 : zSt) (o1 : Nat → Int64) (σ1 : zSt) (n s : Int), zRM (K + 2100000) n k s μ1 → zRC n h s σ1 → zR6 σ1 μ1 → zok (kn μ1 o1 σ1 (x4 + 8)) (fun r => r = 1)) : zok (fLaw_960 xs L kn μ o σ x4) (fun r => r = 1) := by
  unfold fLaw_960
  refine zok_ck (hz 1 (by decide) (by decide)) ?_
  refine zok_ck (hz 2 (by decide) (by decide)) ?_
  refine zok_biE (l_set hC) (fun s3 _ e2 p1 => ?_)
  refine zok_ck (hz 1 (by decide) (by decide)) ?_
  refine zok_ck (hz 2 (by decide) (by decide)) ?_
  refine zok_buE (m_set hM) (fun s6 e5 p4 => ?_)
  have R6 := r_set hR _ _ e2 e5
  refine zok_bv (fun v8 e8 => ?_)
  subst e8
  exact hK _ _ _ _ _ (zRM.mono p4 (by omega) hb) p1 R6
theorem q_fLaw_997 {K n k s h : Int} {xs : Nat → Int32} {L : Nat} {kn : zSt → (Nat → Int64) → zSt → Int32 → Option Int32} {μ σ : zSt} {o : Nat → Int64} {x4 : Int32} (hM : zRM K n k s μ) (hC : zRC n h s σ) (hR : zR6 σ μ) (hb : K + 2100000 ≤ 268435456) (hz : ∀ j : Int32, 0 ≤ j.toInt → j.toInt ≤ 7 → zin (x4 + j) L = true) (hK : ∀ (μ1 : zSt) (o1 : Nat → Int64) (σ1 : zSt) (n s : Int), zRM (K + 2100000) n k s μ1 → zRC n h s σ1 → zR6 σ1 μ1 → zok (kn μ1 o1 σ1 (x4 + 8)) (fun r => r = 1)) : zok (fLaw_997 xs L kn μ o σ x4) (fun r => r = 1) := by
  unfold fLaw_997
  refine zok_ck (hz 1 (by decide) (by decide)) ?_
  refine zok_biE (c_peek hC) (fun s3 _ e2 p1 => ?_)
  refine zok_ck (hz 1 (by decide) (by decide)) ?_
  refine zok_biE (m_peek hM) (fun s6 _ e5 p4 => ?_)
  have R6 := r_peek hR _ _ e2 e5
  refine zok_bv (fun v8 e8 => ?_)
  subst e8
  exact hK _ _ _ _ _ (zRM.mono p4 (by omega) hb) p1 R6
theorem q_fLaw_1022 {K n k s h : Int} {xs : Nat → Int32} {L : Nat} {kn : zSt → (Nat → Int64) → zSt → Int32 → Option Int32} {μ σ : zSt} {o : Nat → Int64} {x4 : Int32} (hM : zRM K n k s μ) (hC : zRC n h s σ) (hR : zR6 σ μ) (hb : K + 2100000 ≤ 268435456) (hz : ∀ j : Int32, 0 ≤ j.toInt → j.toInt ≤ 7 → zin (x4 + j) L = true) (hK : ∀ (μ1 : zSt) (o1 : Nat → Int64) (σ1 : zSt) (n s : Int), zRM (K + 2100000) n k s μ1 → zRC n h s σ1 → zR6 σ1 μ1 → zok (kn μ1 o1 σ1 (x4 + 8)) (fun r => r = 1)) : zok (fLaw_1022 xs L kn μ o σ x4) (fun r => r = 1) := by
  unfold fLaw_1022
  refine zok_ck (hz 1 (by decide) (by decide)) ?_
  refine zok_ck (hz 2 (by decide) (by decide)) ?_
  refine zok_buE (c_poke hC) (fun s3 e2 p1 => ?_)
  refine zok_ck (hz 1 (by decide) (by decide)) ?_
  refine zok_ck (hz 2 (by decide) (by decide)) ?_
  refine zok_buE (m_poke hM) (fun s6 e5 p4 => ?_)
  have R6 := r_poke hR _ _ e2 e5
  refine zok_bv (fun v8 e8 => ?_)
  subst e8
  exact hK _ _ _ _ _ (zRM.mono p4 (by omega) hb) p1 R6
theorem q_fLaw_1057 {K n k s h : Int} {xs : Nat → Int32} {L : Nat} {kn : zSt → (Nat → Int64) → zSt → Int32 → Option Int32} {μ σ : zSt} {o : Nat → Int64} {x4 : Int32} (hM : zRM K n k s μ) (hC : zRC n h s σ) (hR : zR6 σ μ) (hb : K + 2100000 ≤ 268435456) (hz : ∀ j : Int32, 0 ≤ j.toInt → j.toInt ≤ 7 → zin (x4 + j) L = true) (hK : ∀ (μ1 : zSt) (o1 : Nat → Int64) (σ1 : zSt) (n s : Int), zRM (K + 2100000) n k s μ1 → zRC n h s σ1 → zR6 σ1 μ1 → zok (kn μ1 o1 σ1 (x4 + 8)) (fun r => r = 1)) : zok (fLaw_1057 xs L kn μ o σ x4) (fun r => r = 1) := by
  unfold fLaw_1057
  refine zok_ck (hz 1 (by decide) (by decide)) ?_
  refine zok_biE (c_in hC) (fun s3 _ e2 p1 => ?_)
  refine zok_ck (hz 1 (by decide) (by decide)) ?_
  refine zok_biE (m_in hM) (fun s6 _ e5 p4 => ?_)
  have R6 := r_in hR _ _ e2 e5
  refine zok_bv (fun v8 e8 => ?_)
  subst e8
  exact hK _ _ _ _ _ (zRM.mono p4 (by omega) hb) p1 R6
theorem q_fLaw_1082 {K n k s h : Int} {xs : Nat → Int32} {L : Nat} {kn : zSt → (Nat → Int64) → zSt → Int32 → Option Int32} {μ σ : zSt} {o : Nat → Int64} {x4 : Int32} (hM : zRM K n k s μ) (hC : zRC n h s σ) (hR : zR6 σ μ) (hb : K + 2100000 ≤ 268435456) (hz : ∀ j : Int32, 0 ≤ j.toInt → j.toInt ≤ 7 → zin (x4 + j) L = true) (hK : ∀ (μ1 : zSt) (o1 : Nat → Int64) (σ1 : zSt) (n s : Int), zRM (K + 2100000) n k s μ1 → zRC n h s σ1 → zR6 σ1 μ1 → zok (kn μ1 o1 σ1 (x4 + 8)) (fun r => r = 1)) : zok (fLaw_1082 xs L kn μ o σ x4) (fun r => r = 1) := by
  unfold fLaw_1082
  refine zok_ck (hz 1 (by decide) (by decide)) ?_
  refine zok_ck (hz 2 (by decide) (by decide)) ?_
  refine zok_buE (c_out hC) (fun s3 e2 p1 => ?_)
  refine zok_ck (hz 1 (by decide) (by decide)) ?_
  refine zok_ck (hz 2 (by decide) (by decide)) ?_
  refine zok_buE (m_out hM) (fun s6 e5 p4 => ?_)
  have R6 := r_out hR _ _ e2 e5
  refine zok_bv (fun v8 e8 => ?_)
  subst e8
  exact hK _ _ _ _ _ (zRM.mono p4 (by omega) hb) p1 R6
theorem q_fLaw_1117 {K n k s h : Int} {xs : Nat → Int32} {L : Nat} {kn : zSt → (Nat → Int64) → zSt → Int32 → Option Int32} {μ σ : zSt} {o : Nat → Int64} {x4 : Int32} (hM : zRM K n k s μ) (hC : zRC n h s σ) (hR : zR6 σ μ) (hb : K + 2100000 ≤ 268435456) (hz : ∀ j : Int32, 0 ≤ j.toInt → j.toInt ≤ 7 → zin (x4 + j) L = true) (hK : ∀ (μ1 : zSt) (o1 : Nat → Int64) (σ1 : zSt) (n s : Int), zRM (K + 2100000) n k s μ1 → zRC n h s σ1 → zR6 σ1 μ1 → zok (kn μ1 o1 σ1 (x4 + 8)) (fun r => r = 1)) : zok (fLaw_1117 xs L kn μ o σ x4) (fun r => r = 1) := by
  unfold fLaw_1117
  refine zok_ck (hz 1 (by decide) (by decide)) ?_
  refine zok_bhE (l_battery hC) (fun o3 s4 _ e2 p1 => ?_)
  refine zok_ck (hz 1 (by decide) (by decide)) ?_
  refine zok_biE (m_battery hM) (fun s7 _ e6 p5 => ?_)
  have R6 := r_battery hR _ _ e2 e6
  refine zok_bv (fun v8 e8 => ?_)
  subst e8
  exact hK _ _ _ _ _ (zRM.mono p5 (by omega) hb) p1 R6
theorem q_fLaw_1145 {K n k s h : Int} {xs : Nat → Int32} {L : Nat} {kn : zSt → (Nat → Int64) → zSt → Int32 → Option Int32} {μ σ : zSt} {o : Nat → Int64} {x4 : Int32} (hM : zRM K n k s μ) (hC : zRC n h s σ) (hR : zR6 σ μ) (hb : K + 2100000 ≤ 268435456) (hz : ∀ j : Int32, 0 ≤ j.toInt → j.toInt ≤ 7 → zin (x4 + j) L = true) (hK : ∀ (μ1 : zSt) (o1 : Nat → Int64) (σ1 : zSt) (n s : Int), zRM (K + 2100000) n k s μ1 → zRC n h s σ1 → zR6 σ1 μ1 → zok (kn μ1 o1 σ1 (x4 + 8)) (fun r => r = 1)) : zok (fLaw_1145 xs L kn μ o σ x4) (fun r => r = 1) := by
  unfold fLaw_1145
  refine zok_buE (c_wipe hC) (fun s3 e2 p1 => ?_)
  refine zok_buE (m_wipe hM) (fun s6 e5 p4 => ?_)
  have R6 := r_wipe hR _ _ e2 e5
  refine zok_bv (fun v8 e8 => ?_)
  subst e8
  exact hK _ _ _ _ _ (zRM.mono p4 (by omega) hb) p1 R6
theorem q_fLaw_1156 {K n k s h : Int} {xs : Nat → Int32} {L : Nat} {kn : zSt → (Nat → Int64) → zSt → Int32 → Option Int32} {μ σ : zSt} {o : Nat → Int64} {x4 : Int32} (hM : zRM K n k s μ) (hC : zRC n h s σ) (hR : zR6 σ μ) (hb : K + 2100000 ≤ 268435456) (hz : ∀ j : Int32, 0 ≤ j.toInt → j.toInt ≤ 7 → zin (x4 + j) L = true) (hK : ∀ (μ1 : zSt) (o1 : Nat → Int64) (σ1 : zSt) (n s : Int), zRM (K + 2100000) n k s μ1 → zRC n h s σ1 → zR6 σ1 μ1 → zok (kn μ1 o1 σ1 (x4 + 8)) (fun r => r = 1)) : zok (fLaw_1156 xs L kn μ o σ x4) (fun r => r = 1) := by
  unfold fLaw_1156
  refine zok_ck (hz 1 (by decide) (by decide)) ?_
  refine zok_bllE (c_video hC) (fun s3 _ e2 p1 => ?_)
  refine zok_ck (hz 1 (by decide) (by decide)) ?_
  refine zok_bllE (m_video hM) (fun s6 _ e5 p4 => ?_)
  have R6 := r_video hR _ _ e2 e5
  refine zok_bv (fun v8 e8 => ?_)
  subst e8
  exact hK _ _ _ _ _ (zRM.mono p4 (by omega) hb) p1 R6
theorem q_fLaw_1181 {K n k s h : Int} {xs : Nat → Int32} {L : Nat} {kn : zSt → (Nat → Int64) → zSt → Int32 → Option Int32} {μ σ : zSt} {o : Nat → Int64} {x4 : Int32} (hM : zRM K n k s μ) (hC : zRC n h s σ) (hR : zR6 σ μ) (hb : K + 2100000 ≤ 268435456) (hz : ∀ j : Int32, 0 ≤ j.toInt → j.toInt ≤ 7 → zin (x4 + j) L = true) (hK : ∀ (μ1 : zSt) (o1 : Nat → Int64) (σ1 : zSt) (n s : Int), zRM (K + 2100000) n k s μ1 → zRC n h s σ1 → zR6 σ1 μ1 → zok (kn μ1 o1 σ1 (x4 + 8)) (fun r => r = 1)) : zok (fLaw_1181 xs L kn μ o σ x4) (fun r => r = 1) := by
  unfold fLaw_1181
  refine zok_ck (hz 1 (by decide) (by decide)) ?_
  refine zok_bhE (l_chip hC) (fun o3 s4 _ e2 p1 => ?_)
  refine zok_ck (hz 1 (by decide) (by decide)) ?_
  refine zok_biE (m_chip hM) (fun s7 _ e6 p5 => ?_)
  have R6 := r_chip hR _ _ e2 e6
  refine zok_bv (fun v8 e8 => ?_)
  subst e8
  exact hK _ _ _ _ _ (zRM.mono p5 (by omega) hb) p1 R6
theorem q_fLaw_1209 {K n k s h : Int} {xs : Nat → Int32} {L : Nat} {kn : zSt → (Nat → Int64) → zSt → Int32 → Option Int32} {μ σ : zSt} {o : Nat → Int64} {x4 : Int32} (hM : zRM K n k s μ) (hC : zRC n h s σ) (hR : zR6 σ μ) (hb : K + 2100000 ≤ 268435456) (hz : ∀ j : Int32, 0 ≤ j.toInt → j.toInt ≤ 7 → zin (x4 + j) L = true) (hK : ∀ (μ1 : zSt) (o1 : Nat → Int64) (σ1 : zSt) (n s : Int), zRM (K + 2100000) n k s μ1 → zRC n h s σ1 → zR6 σ1 μ1 → zok (kn μ1 o1 σ1 (x4 + 8)) (fun r => r = 1)) : zok (fLaw_1209 xs L kn μ o σ x4) (fun r => r = 1) := by
  unfold fLaw_1209
  refine zok_ck (hz 1 (by decide) (by decide)) ?_
  refine zok_ck (hz 2 (by decide) (by decide)) ?_
  refine zok_bhE (l_dot hC) (fun o3 s4 _ e2 p1 => ?_)
  refine zok_ck (hz 1 (by decide) (by decide)) ?_
  refine zok_ck (hz 2 (by decide) (by decide)) ?_
  refine zok_biE (m_dot hM) (fun s7 _ e6 p5 => ?_)
  have R6 := r_dot hR _ _ e2 e6
  refine zok_bv (fun v8 e8 => ?_)
  subst e8
  exact hK _ _ _ _ _ (zRM.mono p5 (by omega) hb) p1 R6
theorem q_fLaw_1249 {K n k s h : Int} {xs : Nat → Int32} {L : Nat} {kn : zSt → (Nat → Int64) → zSt → Int32 → Option Int32} {μ σ : zSt} {o : Nat → Int64} {x4 : Int32} (hM : zRM K n k s μ) (hC : zRC n h s σ) (hR : zR6 σ μ) (hb : K + 2100000 ≤ 268435456) (hz : ∀ j : Int32, 0 ≤ j.toInt → j.toInt ≤ 7 → zin (x4 + j) L = true) (hK : ∀ (μ1 : zSt) (o1 : Nat → Int64) (σ1 : zSt) (n s : Int), zRM (K + 2100000) n k s μ1 → zRC n h s σ1 → zR6 σ1 μ1 → zok (kn μ1 o1 σ1 (x4 + 8)) (fun r => r = 1)) : zok (fLaw_1249 xs L kn μ o σ x4) (fun r => r = 1) := by
  unfold fLaw_1249
  refine zok_ck (hz 1 (by decide) (by decide)) ?_
  refine zok_bhE (l_row hC) (fun o3 s4 _ e2 p1 => ?_)
  refine zok_ck (hz 1 (by decide) (by decide)) ?_
  refine zok_biE (m_row hM) (fun s7 _ e6 p5 => ?_)
  have R6 := r_row hR _ _ e2 e6
  refine zok_bv (fun v8 e8 => ?_)
  subst e8
  exact hK _ _ _ _ _ (zRM.mono p5 (by omega) hb) p1 R6
theorem q_fLaw_1277 {K n k s h : Int} {xs : Nat → Int32} {L : Nat} {kn : zSt → (Nat → Int64) → zSt → Int32 → Option Int32} {μ σ : zSt} {o : Nat → Int64} {x4 : Int32} (hM : zRM K n k s μ) (hC : zRC n h s σ) (hR : zR6 σ μ) (hb : K + 2100000 ≤ 268435456) (hz : ∀ j : Int32, 0 ≤ j.toInt → j.toInt ≤ 7 → zin (x4 + j) L = true) (hK : ∀ (μ1 : zSt) (o1 : Nat → Int64) (σ1 : zSt) (n s : Int), zRM (K + 2100000) n k s μ1 → zRC n h s σ1 → zR6 σ1 μ1 → zok (kn μ1 o1 σ1 (x4 + 8)) (fun r => r = 1)) : zok (fLaw_1277 xs L kn μ o σ x4) (fun r => r = 1) := by
  unfold fLaw_1277
  refine zok_bhE (l_hear hC) (fun o3 s4 _ e2 p1 => ?_)
  refine zok_bllE (m_hear hM) (fun s7 _ e6 p5 => ?_)
  have R6 := r_hear hR _ _ e2 e6
  refine zok_bv (fun v8 e8 => ?_)
  subst e8
  exact hK _ _ _ _ _ (zRM.mono p5 (by omega) hb) p1 R6
theorem q_fLaw_1293 {K n k s h : Int} {xs : Nat → Int32} {L : Nat} {kn : zSt → (Nat → Int64) → zSt → Int32 → Option Int32} {μ σ : zSt} {o : Nat → Int64} {x4 : Int32} (hM : zRM K n k s μ) (hC : zRC n h s σ) (hR : zR6 σ μ) (hb : K + 2100000 ≤ 268435456) (hz : ∀ j : Int32, 0 ≤ j.toInt → j.toInt ≤ 7 → zin (x4 + j) L = true) (hK : ∀ (μ1 : zSt) (o1 : Nat → Int64) (σ1 : zSt) (n s : Int), zRM (K + 2100000) n k s μ1 → zRC n h s σ1 → zR6 σ1 μ1 → zok (kn μ1 o1 σ1 (x4 + 8)) (fun r => r = 1)) : zok (fLaw_1293 xs L kn μ o σ x4) (fun r => r = 1) := by
  unfold fLaw_1293
  refine zok_bhE (l_mix hC) (fun o3 s4 _ e2 p1 => ?_)
  refine zok_bllE (m_mix hM) (fun s7 _ e6 p5 => ?_)
  have R6 := r_mix hR _ _ e2 e6
  refine zok_bv (fun v8 e8 => ?_)
  subst e8
  exact hK _ _ _ _ _ (zRM.mono p5 (by omega) hb) p1 R6
theorem q_fLaw_1309 {K n k s h : Int} {xs : Nat → Int32} {L : Nat} {kn : zSt → (Nat → Int64) → zSt → Int32 → Option Int32} {μ σ : zSt} {o : Nat → Int64} {x4 : Int32} (hM : zRM K n k s μ) (hC : zRC n h s σ) (hR : zR6 σ μ) (hb : K + 2100000 ≤ 268435456) (hz : ∀ j : Int32, 0 ≤ j.toInt → j.toInt ≤ 7 → zin (x4 + j) L = true) (hK : ∀ (μ1 : zSt) (o1 : Nat → Int64) (σ1 : zSt) (n s : Int), zRM (K + 2100000) n k s μ1 → zRC n h s σ1 → zR6 σ1 μ1 → zok (kn μ1 o1 σ1 (x4 + 8)) (fun r => r = 1)) : zok (fLaw_1309 xs L kn μ o σ x4) (fun r => r = 1) := by
  unfold fLaw_1309
  refine zok_ck (hz 1 (by decide) (by decide)) ?_
  refine zok_bhE (l_wave hC) (fun o3 s4 _ e2 p1 => ?_)
  refine zok_ck (hz 1 (by decide) (by decide)) ?_
  refine zok_biE (m_wave hM) (fun s7 _ e6 p5 => ?_)
  have R6 := r_wave hR _ _ e2 e6
  refine zok_bv (fun v8 e8 => ?_)
  subst e8
  exact hK _ _ _ _ _ (zRM.mono p5 (by omega) hb) p1 R6
theorem q_fLaw_1337 {K n k s h : Int} {xs : Nat → Int32} {L : Nat} {kn : zSt → (Nat → Int64) → zSt → Int32 → Option Int32} {μ σ : zSt} {o : Nat → Int64} {x4 : Int32} (hM : zRM K n k s μ) (hC : zRC n h s σ) (hR : zR6 σ μ) (hb : K + 2100000 ≤ 268435456) (hz : ∀ j : Int32, 0 ≤ j.toInt → j.toInt ≤ 7 → zin (x4 + j) L = true) (hK : ∀ (μ1 : zSt) (o1 : Nat → Int64) (σ1 : zSt) (n s : Int), zRM (K + 2100000) n k s μ1 → zRC n h s σ1 → zR6 σ1 μ1 → zok (kn μ1 o1 σ1 (x4 + 8)) (fun r => r = 1)) : zok (fLaw_1337 xs L kn μ o σ x4) (fun r => r = 1) := by
  unfold fLaw_1337
  refine zok_ck (hz 1 (by decide) (by decide)) ?_
  refine zok_bhE (l_sound hC) (fun o3 s4 _ e2 p1 => ?_)
  refine zok_ck (hz 1 (by decide) (by decide)) ?_
  refine zok_biE (m_sound hM) (fun s7 _ e6 p5 => ?_)
  have R6 := r_sound hR _ _ e2 e6
  refine zok_bv (fun v8 e8 => ?_)
  subst e8
  exact hK _ _ _ _ _ (zRM.mono p5 (by omega) hb) p1 R6
theorem q_fLaw_1365 {K n k s h : Int} {xs : Nat → Int32} {L : Nat} {kn : zSt → (Nat → Int64) → zSt → Int32 → Option Int32} {μ σ : zSt} {o : Nat → Int64} {x4 : Int32} (hM : zRM K n k s μ) (hC : zRC n h s σ) (hR : zR6 σ μ) (hb : K + 2100000 ≤ 268435456) (hz : ∀ j : Int32, 0 ≤ j.toInt → j.toInt ≤ 7 → zin (x4 + j) L = true) (hK : ∀ (μ1 : zSt) (o1 : Nat → Int64) (σ1 : zSt) (n s : Int), zRM (K + 2100000) n k s μ1 → zRC n h s σ1 → zR6 σ1 μ1 → zok (kn μ1 o1 σ1 (x4 + 8)) (fun r => r = 1)) : zok (fLaw_1365 xs L kn μ o σ x4) (fun r => r = 1) := by
  unfold fLaw_1365
  refine zok_ck (hz 1 (by decide) (by decide)) ?_
  refine zok_biE (c_trace hC) (fun s3 _ e2 p1 => ?_)
  refine zok_ck (hz 1 (by decide) (by decide)) ?_
  refine zok_biE (m_trace hM) (fun s6 _ e5 p4 => ?_)
  have R6 := r_trace hR _ _ e2 e5
  refine zok_bv (fun v8 e8 => ?_)
  subst e8
  exact hK _ _ _ _ _ (zRM.mono p4 (by omega) hb) p1 R6
theorem q_fLaw_1390 {K n k s h : Int} {xs : Nat → Int32} {L : Nat} {kn : zSt → (Nat → Int64) → zSt → Int32 → Option Int32} {μ σ : zSt} {o : Nat → Int64} {x4 : Int32} (hM : zRM K n k s μ) (hC : zRC n h s σ) (hR : zR6 σ μ) (hb : K + 2100000 ≤ 268435456) (hz : ∀ j : Int32, 0 ≤ j.toInt → j.toInt ≤ 7 → zin (x4 + j) L = true) (hK : ∀ (μ1 : zSt) (o1 : Nat → Int64) (σ1 : zSt) (n s : Int), zRM (K + 2100000) n k s μ1 → zRC n h s σ1 → zR6 σ1 μ1 → zok (kn μ1 o1 σ1 (x4 + 8)) (fun r => r = 1)) : zok (fLaw_1390 xs L kn μ o σ x4) (fun r => r = 1) := by
  unfold fLaw_1390
  refine zok_ck (hz 1 (by decide) (by decide)) ?_
  refine zok_bhE (l_look hC) (fun o3 s4 _ e2 p1 => ?_)
  refine zok_ck (hz 1 (by decide) (by decide)) ?_
  refine zok_bllE (m_look hM) (fun s7 _ e6 p5 => ?_)
  have R6 := r_look hR _ _ e2 e6
  refine zok_bv (fun v8 e8 => ?_)
  subst e8
  exact hK _ _ _ _ _ (zRM.mono p5 (by omega) hb) p1 R6
theorem q_fLaw_1418 {K n k s h : Int} {xs : Nat → Int32} {L : Nat} {kn : zSt → (Nat → Int64) → zSt → Int32 → Option Int32} {μ σ : zSt} {o : Nat → Int64} {x4 : Int32} (hM : zRM K n k s μ) (hC : zRC n h s σ) (hR : zR6 σ μ) (hb : K + 2100000 ≤ 268435456) (hz : ∀ j : Int32, 0 ≤ j.toInt → j.toInt ≤ 7 → zin (x4 + j) L = true) (hK : ∀ (μ1 : zSt) (o1 : Nat → Int64) (σ1 : zSt) (n s : Int), zRM (K + 2100000) n k s μ1 → zRC n h s σ1 → zR6 σ1 μ1 → zok (kn μ1 o1 σ1 (x4 + 8)) (fun r => r = 1)) : zok (fLaw_1418 xs L kn μ o σ x4) (fun r => r = 1) := by
  unfold fLaw_1418
  refine zok_bv (fun v8 e8 => ?_)
  subst e8
  exact hK _ _ _ _ _ (zRM.mono hM (by omega) hb) hC hR
end ZJN11
section ZJN12
theorem z_at8 {L : Nat} (hL : L ≤ 513) {x4 : Int32} {c : Nat} (e : x4.toInt = 1 + 8 * (c : Int)) (hc : c ≤ 64) (q : ¬ Int32.ofNat L - 8 < x4) : c ≤ 63 ∧ (∀ j : Int32, 0 ≤ j.toInt → j.toInt ≤ 7 → zin (x4 + j) L = true) ∧ zin x4 L = true ∧ (x4 + 8).toInt = 1 + 8 * ((c + 1 : Nat) : Int) := by
  have eL : (Int32.ofNat L).toInt = L := Int32.toInt_ofNat_of_lt (by omega)
  have c8 : (8 : Int32).toInt = 8 := rfl
  have r8 : zr 8 8 (8 : Int32) := zr_c (by decide)
  have rL : zr 0 513 (Int32.ofNat L) := ⟨by omega, by omega⟩
  have r4 : zr 1 513 x4 := ⟨by omega, by omega⟩
  have t := z_tsub rL r8 (by decide)
  have q1 := Int32.le_iff_toInt_le.mp (z_nlt q)
  rw [t, eL, c8, e] at q1
  have t8 := z_tadd r4 r8 (by decide)
  refine ⟨by omega, fun j j1 j2 => ?_, zin_ok (lo := x4.toInt) (hi := x4.toInt) ⟨Int.le_refl _, Int.le_refl _⟩ (by omega), by rw [t8, e, c8]; omega⟩
  have rj : zr 0 7 j := ⟨j1, j2⟩
  have tj := z_tadd r4 rj (by decide)
  exact zin_ok (lo := (x4 + j).toInt) (hi := (x4 + j).toInt) ⟨Int.le_refl _, Int.le_refl _⟩ (by omega)
theorem z_loop {L : Nat} (hL : L ≤ 513) {xs : Nat → Int32} {k h : Int} : ∀ (n c : Nat) (μ : zSt) (o : Nat → Int64) (σ : zSt) (x4 : Int32) (a d : Int), x4.toInt = 1 + 8 * (c : Int) → c + n = 66 → c ≤ 64 → zRM (2100000 * (c : Int)) a k d μ → zRC a h d σ → zR6 σ μ → zok (fLaw xs L n μ o σ x4) (fun r => r = 1) := by
  intro n
  induction n with
  | zero => intro c μ o σ x4 a d e hn hc; exfalso; omega
  | succ n ih =>
    intro c μ o σ x4 a d e hn hc hM hC hR
    show zok (fLaw_body xs L (fLaw xs L n) μ o σ x4) _
    unfold fLaw_body
    refine zok_if (fun _ => zok_some rfl) (fun q => ?_)
    obtain ⟨c1, hz, h0, e8⟩ := z_at8 hL e hc q
    have hb : 2100000 * (c : Int) + 2100000 ≤ 268435456 := by omega
    have hK : ∀ (μ1 : zSt) (o1 : Nat → Int64) (σ1 : zSt) (a d : Int), zRM (2100000 * (c : Int) + 2100000) a k d μ1 → zRC a h d σ1 → zR6 σ1 μ1 → zok (fLaw xs L n μ1 o1 σ1 (x4 + 8)) (fun r => r = 1) := fun μ1 o1 σ1 a d h1 h2 h3 => by
      refine ih (c + 1) μ1 o1 σ1 (x4 + 8) a d e8 (by omega) (by omega) ?_ h2 h3
      rw [show 2100000 * ((c + 1 : Nat) : Int) = 2100000 * (c : Int) + 2100000 by omega]
      exact h1
    refine zok_ck h0 (zok_bv (fun t _ => ?_))
    refine zok_if (fun _ => q_fLaw_208 hM hC hR hb hz hK) (fun _ => ?_)
    refine zok_if (fun _ => q_fLaw_372 hM hC hR hb hz hK) (fun _ => ?_)
    refine zok_if (fun _ => q_fLaw_400 hM hC hR hb hz hK) (fun _ => ?_)
    refine zok_if (fun _ => q_fLaw_469 hM hC hR hb hz hK) (fun _ => ?_)
    refine zok_if (fun _ => q_fLaw_482 hM hC hR hb hz hK) (fun _ => ?_)
    refine zok_if (fun _ => q_fLaw_538 hM hC hR hb hz hK) (fun _ => ?_)
    refine zok_if (fun _ => q_fLaw_566 hM hC hR hb hz hK) (fun _ => ?_)
    refine zok_if (fun _ => q_fLaw_594 hM hC hR hb hz hK) (fun _ => ?_)
    refine zok_if (fun _ => q_fLaw_605 hM hC hR hb hz hK) (fun _ => ?_)
    refine zok_if (fun _ => q_fLaw_618 hM hC hR hb hz hK) (fun _ => ?_)
    refine zok_if (fun _ => q_fLaw_655 hM hC hR hb hz hK) (fun _ => ?_)
    refine zok_if (fun _ => q_fLaw_694 hM hC hR hb hz hK) (fun _ => ?_)
    refine zok_if (fun _ => q_fLaw_747 hM hC hR hb hz hK) (fun _ => ?_)
    refine zok_if (fun _ => q_fLaw_799 hM hC hR hb hz hK) (fun _ => ?_)
    refine zok_if (fun _ => q_fLaw_824 hM hC hR hb hz hK) (fun _ => ?_)
    refine zok_if (fun _ => q_fLaw_852 hM hC hR hb hz hK) (fun _ => ?_)
    refine zok_if (fun _ => q_fLaw_908 hM hC hR hb hz hK) (fun _ => ?_)
    refine zok_if (fun _ => q_fLaw_919 hM hC hR hb hz hK) (fun _ => ?_)
    refine zok_if (fun _ => q_fLaw_932 hM hC hR hb hz hK) (fun _ => ?_)
    refine zok_if (fun _ => q_fLaw_960 hM hC hR hb hz hK) (fun _ => ?_)
    refine zok_if (fun _ => q_fLaw_997 hM hC hR hb hz hK) (fun _ => ?_)
    refine zok_if (fun _ => q_fLaw_1022 hM hC hR hb hz hK) (fun _ => ?_)
    refine zok_if (fun _ => q_fLaw_1057 hM hC hR hb hz hK) (fun _ => ?_)
    refine zok_if (fun _ => q_fLaw_1082 hM hC hR hb hz hK) (fun _ => ?_)
    refine zok_if (fun _ => q_fLaw_1117 hM hC hR hb hz hK) (fun _ => ?_)
    refine zok_if (fun _ => q_fLaw_1145 hM hC hR hb hz hK) (fun _ => ?_)
    refine zok_if (fun _ => q_fLaw_1156 hM hC hR hb hz hK) (fun _ => ?_)
    refine zok_if (fun _ => q_fLaw_1181 hM hC hR hb hz hK) (fun _ => ?_)
    refine zok_if (fun _ => q_fLaw_1209 hM hC hR hb hz hK) (fun _ => ?_)
    refine zok_if (fun _ => q_fLaw_1249 hM hC hR hb hz hK) (fun _ => ?_)
    refine zok_if (fun _ => q_fLaw_1277 hM hC hR hb hz hK) (fun _ => ?_)
    refine zok_if (fun _ => q_fLaw_1293 hM hC hR hb hz hK) (fun _ => ?_)
    refine zok_if (fun _ => q_fLaw_1309 hM hC hR hb hz hK) (fun _ => ?_)
    refine zok_if (fun _ => q_fLaw_1337 hM hC hR hb hz hK) (fun _ => ?_)
    refine zok_if (fun _ => q_fLaw_1365 hM hC hR hb hz hK) (fun _ => ?_)
    refine zok_if (fun _ => q_fLaw_1390 hM hC hR hb hz hK) (fun _ => ?_)
    exact q_fLaw_1418 hM hC hR hb hz hK
theorem zKS_fresh {k : Int32} : zKS 0 (zG0 k) := by
  have v : ∀ i, ¬ i = 1 → zG0 k i = 0 := fun i h1 => by
    unfold zG0 zset
    split
    · rfl
    · split
      · rfl
      · first | rfl | rw [if_neg h1]
  have lb := zln_b (zG0 k)
  unfold zKS zJ
  rw [v 102 (by decide), v 105 (by decide), v 106 (by decide), v 6 (by decide), v 7 (by decide), v 8 (by decide)]
  omega
/-! fresh: nothing on the tape, no cartridge -/
theorem z_fresh6 {k : Int32} {σN4 σN5 σN9 σ1 : zSt} {σN6 : Int32 → zSt} {c : Int32} (e : fX12_anew (zsi (zsi (zsi (zsi (zsi zS0 0 8 (-1)) 0 3 c) 3 44 0) 3 45 1) 3 46 1) = some σ1) : zR6 (zC1 k σN4 σN5 σN6 σN9) σ1 := by
  have w := w_fX12_anew zKeM_rfl σ1 e
  obtain ⟨w1, w2, w3⟩ := w
  have m1 : ∀ j, σ1.1 1 j = 0 := fun j => by rw [w1]; rfl
  have a2 : σ1.1 0 2 = 0 := (w3 2 (by decide)).trans rfl
  have a5 : σ1.1 0 5 = 0 := (w3 5 (by decide)).trans rfl
  have a6 : σ1.1 0 6 = 0 := (w3 6 (by decide)).trans rfl
  have a7 : σ1.1 0 7 = 0 := (w3 7 (by decide)).trans rfl
  have a8 : σ1.1 0 8 = -1 := (w3 8 (by decide)).trans rfl
  have c0 : (0 : Int32).toInt = 0 := rfl
  have c1 : (-1 : Int32).toInt = -1 := rfl
  refine ⟨by rw [a2]; rfl, fun j hj => ?_, ?_, ?_⟩
  · rw [a2, c0] at hj
    exfalso
    omega
  · show ¬ ztp (0 : Int32) = ztp (1 : Int32)
    decide
  · refine ⟨by rw [a5]; rfl, by rw [a6]; rfl, by rw [a7]; rfl, by rw [a8]; rfl, fun j hj => ?_, fun hj => ?_⟩
    · rw [a5, c0] at hj
      exfalso
      omega
    · rw [a8, c1] at hj
      exfalso
      omega
theorem z_owed {L : Nat} {xs : Nat → Int32} (hL : L ≤ 513) : zOwed L xs := by
  obtain ⟨σ4, e4, i4⟩ := z_c4
  obtain ⟨σ5, e5, i5⟩ := z_c5
  obtain ⟨σ9, e9, i9⟩ := z_c9
  obtain ⟨σ1, e1, i1⟩ := s_freshM (zKd_r (zCell L xs))
  have hC := s_freshC i4 i5 (fun v => (Classical.choose_spec (z_c6 v)).2) i9 (k := zCell L xs)
  have z0 : zG0 (zKd (zCell L xs)) 0 = 0 := by unfold zG0; rw [zset_ne (by decide), zset_ne (by decide), zset_ne (by decide)]
  have z2 : zG0 (zKd (zCell L xs)) 2 = 0 := by unfold zG0; rw [zset_ne (by decide), zset_ne (by decide), zset_ne (by decide)]
  have h0 : zRM (2100000 * ((0 : Nat) : Int)) 0 (zG0 (zKd (zCell L xs)) 1) 0 σ1 := by
    rw [show (2100000 * ((0 : Nat) : Int)) = 0 by decide]
    exact ⟨by decide, _, i1, zG0_J (zKd_r _), zKS_fresh, z0, rfl, z2⟩
  have h1 : zRC 0 (zH0 (zCell L xs) 2) 0 (zC1 (zCell L xs) σ4 σ5 (fun v => Classical.choose (z_c6 v)) σ9) := ⟨_, hC, rfl, rfl, rfl⟩
  obtain ⟨r, e, h⟩ := z_loop hL (xs := xs) 66 0 σ1 (fun _ => 0) _ 1 _ _ (by decide) rfl (by decide) h0 h1 (z_fresh6 e1)
  refine ⟨σ4, e4, σ5, e5, _, fun v => (Classical.choose_spec (z_c6 v)).1, σ9, e9, σ1, e1, 66, by decide, ?_⟩
  rw [e, h]
end ZJN12
