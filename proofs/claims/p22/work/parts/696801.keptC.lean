theorem w_fX5_putOne_88 {σ0 : zSt} {σ : zSt} (h : zKeC σ0 σ) : zpc (fX5_putOne_88 σ) (fun r => zKeC σ0 (r)) := by
  unfold fX5_putOne_88
  exact zpc_some h
theorem w_fX5_putOne {σ0 : zSt} {σ : zSt} {x1 : Int32} {x2 : Int32} (h : zKeC σ0 σ) : zpc (fX5_putOne σ x1 x2) (fun r => zKeC σ0 (r)) := by
  unfold fX5_putOne
  exact zpc_if (fun _ => zpc_bu (w_fX5_putPairHalf h) (fun σ1 hσ1 => w_fX5_putOne_88 hσ1)) (fun _ => zpc_if (fun _ => zpc_bu (w_fX5_putPairHalf h) (fun σ2 hσ2 => w_fX5_putOne_88 hσ2)) (fun _ => zpc_if (fun _ => zpc_bu (w_fX2_write h) (fun σ3 hσ3 => w_fX5_putOne_88 hσ3)) (fun _ => zpc_if (fun _ => zpc_ck (zpc_bs (zKeC.wi h (by decide)) (fun σ4 hσ4 => w_fX5_putOne_88 hσ4))) (fun _ => zpc_ck (zpc_bs (zKeC.wi h (by decide)) (fun σ5 hσ5 => w_fX5_putOne_88 hσ5))))))
theorem w_fX5_turnBeside_128 {σ0 : zSt} {σ : zSt} (h : zKeC σ0 σ) : zpc (fX5_turnBeside_128 σ) (fun r => zKeC σ0 (r.1)) := by
  unfold fX5_turnBeside_128
  exact zpc_some h
theorem w_fX5_turnBeside {σ0 : zSt} {σ : zSt} (h : zKeC σ0 σ) : zpc (fX5_turnBeside σ) (fun r => zKeC σ0 (r.1)) := by
  unfold fX5_turnBeside
  exact zpc_ck (zpc_bi (w_fX5_fetch h) (fun σ1 v2 hσ1 => zpc_ck (zpc_bs (zKeC.wi hσ1 (by decide)) (fun σ3 hσ3 => zpc_ck (zpc_bs (zKeC.wi hσ3 (by decide)) (fun σ4 hσ4 => zpc_bs (zKeC.wi hσ4 (by decide)) (fun σ5 hσ5 => zpc_bi (w_fX5_fetch hσ5) (fun σ6 v7 hσ6 => zpc_bi (w_fX2_read hσ6) (fun σ8 v9 hσ8 => zpc_if (fun _ => zpc_ck (zpc_bu (w_fX5_askBit hσ8) (fun σ14 hσ14 => zpc_some hσ14))) (fun _ => zpc_bi (w_fX5_turned hσ8) (fun σ10 v11 hσ10 => zpc_bu (w_fX2_write hσ10) (fun σ12 hσ12 => zpc_if (fun _ => w_fX5_turnBeside_128 hσ12) (fun _ => zpc_bu (w_fX5_putOne hσ12) (fun σ13 hσ13 => w_fX5_turnBeside_128 hσ13))))))))))))))
theorem w_fX5_meansPlace_97 {σ0 : zSt} {σ : zSt} {s0 : Int32} (h : zKeC σ0 σ) : zpc (fX5_meansPlace_97 σ s0) (fun r => zKeC σ0 (r.1)) := by
  unfold fX5_meansPlace_97
  exact zpc_ck (zpc_some h)
theorem w_fX5_meansPlace_86 {σ0 : zSt} {σ : zSt} {s0 : Int32} (h : zKeC σ0 σ) : zpc (fX5_meansPlace_86 σ s0) (fun r => zKeC σ0 (r.1)) := by
  unfold fX5_meansPlace_86
  exact zpc_ck (zpc_some h)
theorem w_fX5_meansPlace_85 {σ0 : zSt} {σ : zSt} (h : zKeC σ0 σ) : zpc (fX5_meansPlace_85 σ) (fun r => zKeC σ0 (r.1)) := by
  unfold fX5_meansPlace_85
  exact w_fX5_meansPlace_86 h
theorem w_fX5_meansPlace_29 {σ0 : zSt} {σ : zSt} {x0 : Int32} {x1 : Int32} {s0 : Int32} (h : zKeC σ0 σ) : zpc (fX5_meansPlace_29 σ x0 x1 s0) (fun r => zKeC σ0 (r.1)) := by
  unfold fX5_meansPlace_29
  exact zpc_if (fun _ => zpc_if (fun _ => w_fX5_meansPlace_85 h) (fun _ => zpc_if (fun _ => w_fX5_meansPlace_85 h) (fun _ => zpc_if (fun _ => w_fX5_meansPlace_85 h) (fun _ => w_fX5_meansPlace_86 h)))) (fun _ => zpc_if (fun _ => zpc_if (fun _ => w_fX5_meansPlace_97 h) (fun _ => w_fX5_meansPlace_97 h)) (fun _ => zpc_if (fun _ => zpc_ck (zpc_some h)) (fun _ => zpc_ck (zpc_some h))))
theorem w_fX5_meansPlace_14 {σ0 : zSt} {σ : zSt} {x0 : Int32} {s0 : Int32} (h : zKeC σ0 σ) : zpc (fX5_meansPlace_14 σ x0 s0) (fun r => zKeC σ0 (r.1)) := by
  unfold fX5_meansPlace_14
  exact zpc_if (fun _ => w_fX5_meansPlace_29 h) (fun _ => w_fX5_meansPlace_29 h)
theorem w_fX5_meansPlace {σ0 : zSt} {σ : zSt} {x0 : Int32} (h : zKeC σ0 σ) : zpc (fX5_meansPlace σ x0) (fun r => zKeC σ0 (r.1)) := by
  unfold fX5_meansPlace
  exact zpc_if (fun _ => w_fX5_meansPlace_14 h) (fun _ => w_fX5_meansPlace_14 h)
theorem w_fX5_takePlace_64 {σ0 : zSt} {σ : zSt} {s0 : Int32} (h : zKeC σ0 σ) : zpc (fX5_takePlace_64 σ s0) (fun r => zKeC σ0 (r.1)) := by
  unfold fX5_takePlace_64
  exact zpc_some h
theorem w_fX5_takePlace {σ0 : zSt} {σ : zSt} {x1 : Int32} (h : zKeC σ0 σ) : zpc (fX5_takePlace σ x1) (fun r => zKeC σ0 (r.1)) := by
  unfold fX5_takePlace
  exact zpc_bi (w_fX5_meansPlace h) (fun σ1 v2 hσ1 => zpc_if (fun _ => zpc_some hσ1) (fun _ => zpc_ck (zpc_bi (w_fX5_fetch hσ1) (fun σ3 v4 hσ3 => zpc_ck (zpc_bs (zKeC.wi hσ3 (by decide)) (fun σ5 hσ5 => zpc_ck (zpc_bs (zKeC.wi hσ5 (by decide)) (fun σ6 hσ6 => zpc_bs (zKeC.wi hσ6 (by decide)) (fun σ7 hσ7 => zpc_if (fun _ => w_fX5_takePlace_64 hσ7) (fun _ => w_fX5_takePlace_64 hσ7))))))))))
theorem w_fX5_one_96 {σ0 : zSt} {σ : zSt} {s0 : Int32} (h : zKeC σ0 σ) : zpc (fX5_one_96 σ s0) (fun r => zKeC σ0 (r.1)) := by
  unfold fX5_one_96
  exact zpc_some h
theorem w_fX5_one_63 {σ0 : zSt} {σ : zSt} {s0 : Int32} (h : zKeC σ0 σ) : zpc (fX5_one_63 σ s0) (fun r => zKeC σ0 (r.1)) := by
  unfold fX5_one_63
  exact zpc_some h
theorem w_fX5_one {σ0 : zSt} {σ : zSt} {x1 : Int32} (h : zKeC σ0 σ) : zpc (fX5_one σ x1) (fun r => zKeC σ0 (r.1)) := by
  unfold fX5_one
  exact zpc_if (fun _ => zpc_if (fun _ => zpc_ck (w_fX5_one_63 h)) (fun _ => zpc_ck (w_fX5_one_63 h))) (fun _ => zpc_if (fun _ => zpc_if (fun _ => zpc_ck (w_fX5_one_96 h)) (fun _ => zpc_ck (w_fX5_one_96 h))) (fun _ => zpc_if (fun _ => zpc_bi (w_fX2_read h) (fun σ1 v2 hσ1 => zpc_some hσ1)) (fun _ => zpc_if (fun _ => zpc_ck (zpc_some h)) (fun _ => zpc_ck (zpc_some h)))))
theorem w_fX5_turns_63 {σ0 : zSt} {σ : zSt} {s0 : Int32} (h : zKeC σ0 σ) : zpc (fX5_turns_63 σ s0) (fun r => zKeC σ0 (r.1)) := by
  unfold fX5_turns_63
  exact zpc_some h
theorem w_fX5_turns_47 {σ0 : zSt} {σ : zSt} {x2 : Int32} {s0 : Int32} {s1 : Int32} {s2 : Int32} (h : zKeC σ0 σ) : zpc (fX5_turns_47 σ x2 s0 s1 s2) (fun r => zKeC σ0 (r.1)) := by
  unfold fX5_turns_47
  exact zpc_bu (w_fX5_askBit h) (fun σ1 hσ1 => zpc_if (fun _ => w_fX5_turns_63 hσ1) (fun _ => w_fX5_turns_63 hσ1))
theorem w_fX5_turns_88 {σ0 : zSt} {σ : zSt} {s0 : Int32} (h : zKeC σ0 σ) : zpc (fX5_turns_88 σ s0) (fun r => zKeC σ0 (r.1)) := by
  unfold fX5_turns_88
  exact zpc_some h
theorem w_fX5_turns {σ0 : zSt} {σ : zSt} {x1 : Int32} (h : zKeC σ0 σ) : zpc (fX5_turns σ x1) (fun r => zKeC σ0 (r.1)) := by
  unfold fX5_turns
  exact zpc_bv (fun v2 _ => zpc_bi (w_fX5_one h) (fun σ3 v4 hσ3 => zpc_if (fun _ => zpc_if (fun _ => zpc_ck (w_fX5_turns_47 hσ3)) (fun _ => w_fX5_turns_47 hσ3)) (fun _ => zpc_bi (w_fX5_turned hσ3) (fun σ5 v6 hσ5 => zpc_bu (w_fX5_putOne hσ5) (fun σ7 hσ7 => zpc_if (fun _ => w_fX5_turns_88 hσ7) (fun _ => w_fX5_turns_88 hσ7))))))
theorem w_fX5_putPairAt {σ0 : zSt} {σ : zSt} {x1 : Int32} {x2 : Int32} (h : zKeC σ0 σ) : zpc (fX5_putPairAt σ x1 x2) (fun r => zKeC σ0 (r)) := by
  unfold fX5_putPairAt
  exact zpc_ck (zpc_bs (zKeC.wi h (by decide)) (fun σ1 hσ1 => zpc_ck (zpc_bs (zKeC.wi hσ1 (by decide)) (fun σ2 hσ2 => zpc_some hσ2))))
theorem w_fX5_tellOfPort_34 {σ0 : zSt} {σ : zSt} {x2 : Int32} {s0 : Int32} {s1 : Int32} {s2 : Int32} (h : zKeC σ0 σ) : zpc (fX5_tellOfPort_34 σ x2 s0 s1 s2) (fun r => zKeC σ0 (r)) := by
  unfold fX5_tellOfPort_34
  exact zpc_ck (zpc_bi (w_fX5_parity h) (fun σ1 v2 hσ1 => zpc_ck (zpc_bs (zKeC.wi hσ1 (by decide)) (fun σ3 hσ3 => zpc_some hσ3))))
theorem w_fX5_tellOfPort {σ0 : zSt} {σ : zSt} {x1 : Int32} {x2 : Int32} (h : zKeC σ0 σ) : zpc (fX5_tellOfPort σ x1 x2) (fun r => zKeC σ0 (r)) := by
  unfold fX5_tellOfPort
  exact zpc_ck (zpc_bi (w_fX5_by h) (fun σ4 v5 hσ4 => zpc_if (fun _ => w_fX5_tellOfPort_34 hσ4) (fun _ => w_fX5_tellOfPort_34 hσ4)))
theorem w_fX5_giveOne_105 {σ0 : zSt} {σ : zSt} {s0 : Int32} (h : zKeC σ0 σ) : zpc (fX5_giveOne_105 σ s0) (fun r => zKeC σ0 (r.1)) := by
  unfold fX5_giveOne_105
  exact zpc_ck (zpc_some h)
theorem w_fX5_giveOne {σ0 : zSt} {σ : zSt} {x1 : Int32} (h : zKeC σ0 σ) : zpc (fX5_giveOne σ x1) (fun r => zKeC σ0 (r.1)) := by
  unfold fX5_giveOne
  exact zpc_bi (w_fX5_pairAt h) (fun σ1 v2 hσ1 => zpc_bi (w_fX2_read hσ1) (fun σ3 v4 hσ3 => zpc_ck (zpc_ck (zpc_bs (zKeC.wi hσ3 (by decide)) (fun σ5 hσ5 => zpc_ck (zpc_bu (w_fX4_write hσ5) (fun σ6 hσ6 => zpc_bi (w_fX5_pairAt hσ6) (fun σ7 v8 hσ7 => zpc_bu (w_fX5_putPairAt hσ7) (fun σ9 hσ9 => zpc_bi (w_fX5_pairAt hσ9) (fun σ10 v11 hσ10 => zpc_ck (zpc_bs (zKeC.wi hσ10 (by decide)) (fun σ12 hσ12 => zpc_ck (zpc_bu (w_fX5_tellOfPort hσ12) (fun σ13 hσ13 => zpc_ck (zpc_if (fun _ => w_fX5_giveOne_105 hσ13) (fun _ => w_fX5_giveOne_105 hσ13))))))))))))))))
theorem w_fX5_takeOne_110 {σ0 : zSt} {σ : zSt} {s0 : Int32} (h : zKeC σ0 σ) : zpc (fX5_takeOne_110 σ s0) (fun r => zKeC σ0 (r.1)) := by
  unfold fX5_takeOne_110
  exact zpc_ck (zpc_some h)
theorem w_fX5_takeOne {σ0 : zSt} {σ : zSt} {x1 : Int32} (h : zKeC σ0 σ) : zpc (fX5_takeOne σ x1) (fun r => zKeC σ0 (r.1)) := by
  unfold fX5_takeOne
  exact zpc_bi (w_fX5_pairAt h) (fun σ1 v2 hσ1 => zpc_ck (zpc_bs (zKeC.wi hσ1 (by decide)) (fun σ3 hσ3 => zpc_ck (zpc_bi (w_fX4_read hσ3) (fun σ4 v5 hσ4 => zpc_ck (zpc_ck (zpc_bs (zKeC.wi hσ4 (by decide)) (fun σ6 hσ6 => zpc_bi (w_fX5_pairAt hσ6) (fun σ7 v8 hσ7 => zpc_bu (w_fX2_write hσ7) (fun σ9 hσ9 => zpc_bi (w_fX5_pairAt hσ9) (fun σ10 v11 hσ10 => zpc_bu (w_fX5_putPairAt hσ10) (fun σ12 hσ12 => zpc_ck (zpc_bu (w_fX5_tellOfPort hσ12) (fun σ13 hσ13 => zpc_ck (zpc_if (fun _ => w_fX5_takeOne_110 hσ13) (fun _ => w_fX5_takeOne_110 hσ13))))))))))))))))
theorem w_fX5_compareOne_184 {σ0 : zSt} {σ : zSt} {s0 : Int32} (h : zKeC σ0 σ) : zpc (fX5_compareOne_184 σ s0) (fun r => zKeC σ0 (r.1)) := by
  unfold fX5_compareOne_184
  exact zpc_ck (zpc_some h)
theorem w_fX5_compareOne_183 {σ0 : zSt} {σ : zSt} (h : zKeC σ0 σ) : zpc (fX5_compareOne_183 σ) (fun r => zKeC σ0 (r.1)) := by
  unfold fX5_compareOne_183
  exact w_fX5_compareOne_184 h
theorem w_fX5_compareOne_166 {σ0 : zSt} {σ : zSt} {x3 : Int32} {x5 : Int32} {s0 : Int32} {s1 : Int32} {s2 : Int32} (h : zKeC σ0 σ) : zpc (fX5_compareOne_166 σ x3 x5 s0 s1 s2) (fun r => zKeC σ0 (r.1)) := by
  unfold fX5_compareOne_166
  exact zpc_ck (zpc_bs (zKeC.wi h (by decide)) (fun σ1 hσ1 => zpc_if (fun _ => w_fX5_compareOne_183 hσ1) (fun _ => zpc_if (fun _ => w_fX5_compareOne_183 hσ1) (fun _ => w_fX5_compareOne_184 hσ1))))
theorem w_fX5_compareOne_139 {σ0 : zSt} {σ : zSt} {x3 : Int32} {x4 : Int32} {x5 : Int32} {x6 : Int32} {s0 : Int32} {s1 : Int32} {s2 : Int32} (h : zKeC σ0 σ) : zpc (fX5_compareOne_139 σ x3 x4 x5 x6 s0 s1 s2) (fun r => zKeC σ0 (r.1)) := by
  unfold fX5_compareOne_139
  exact zpc_if (fun _ => w_fX5_compareOne_166 h) (fun _ => w_fX5_compareOne_166 h)
theorem w_fX5_compareOne_100 {σ0 : zSt} {σ : zSt} {x3 : Int32} {x4 : Int32} {s0 : Int32} (h : zKeC σ0 σ) : zpc (fX5_compareOne_100 σ x3 x4 s0) (fun r => zKeC σ0 (r.1)) := by
  unfold fX5_compareOne_100
  exact zpc_bv (fun v2 _ => zpc_ck (zpc_if (fun _ => w_fX5_compareOne_139 h) (fun _ => w_fX5_compareOne_139 h)))
theorem w_fX5_compareOne {σ0 : zSt} {σ : zSt} {x1 : Int32} (h : zKeC σ0 σ) : zpc (fX5_compareOne σ x1) (fun r => zKeC σ0 (r.1)) := by
  unfold fX5_compareOne
  exact zpc_bi (w_fX5_pairAt h) (fun σ3 v4 hσ3 => zpc_bi (w_fX2_read hσ3) (fun σ5 v6 hσ5 => zpc_ck (zpc_bv (fun v7 _ => zpc_ck (zpc_bv (fun v8 _ => zpc_bi (w_fX5_pairAt hσ5) (fun σ9 v10 hσ9 => zpc_bu (w_fX5_putPairAt hσ9) (fun σ11 hσ11 => zpc_bi (w_fX5_pairAt hσ11) (fun σ12 v13 hσ12 => zpc_bu (w_fX5_putPairAt hσ12) (fun σ14 hσ14 => zpc_ck (zpc_ck (zpc_bs (zKeC.wi hσ14 (by decide)) (fun σ15 hσ15 => zpc_bi (w_fX5_pairAt hσ15) (fun σ16 v17 hσ16 => zpc_if (fun _ => w_fX5_compareOne_100 hσ16) (fun _ => w_fX5_compareOne_100 hσ16)))))))))))))))
theorem w_fX5_copyOne_126 {σ0 : zSt} {σ : zSt} {x3 : Int32} {s0 : Int32} {s1 : Int32} {s2 : Int32} (h : zKeC σ0 σ) : zpc (fX5_copyOne_126 σ x3 s0 s1 s2) (fun r => zKeC σ0 (r.1)) := by
  unfold fX5_copyOne_126
  exact zpc_ck (zpc_bs (zKeC.wi h (by decide)) (fun σ1 hσ1 => zpc_ck (zpc_some hσ1)))
theorem w_fX5_copyOne_78 {σ0 : zSt} {σ : zSt} {x2 : Int32} {s0 : Int32} (h : zKeC σ0 σ) : zpc (fX5_copyOne_78 σ x2 s0) (fun r => zKeC σ0 (r.1)) := by
  unfold fX5_copyOne_78
  exact zpc_ck (zpc_bv (fun v2 _ => zpc_ck (zpc_if (fun _ => w_fX5_copyOne_126 h) (fun _ => w_fX5_copyOne_126 h))))
theorem w_fX5_copyOne {σ0 : zSt} {σ : zSt} {x1 : Int32} (h : zKeC σ0 σ) : zpc (fX5_copyOne σ x1) (fun r => zKeC σ0 (r.1)) := by
  unfold fX5_copyOne
  exact zpc_bi (w_fX5_pairAt h) (fun σ3 v4 hσ3 => zpc_bi (w_fX2_read hσ3) (fun σ5 v6 hσ5 => zpc_bi (w_fX5_pairAt hσ5) (fun σ7 v8 hσ7 => zpc_bu (w_fX2_write hσ7) (fun σ9 hσ9 => zpc_bi (w_fX5_pairAt hσ9) (fun σ10 v11 hσ10 => zpc_bu (w_fX5_putPairAt hσ10) (fun σ12 hσ12 => zpc_bi (w_fX5_pairAt hσ12) (fun σ13 v14 hσ13 => zpc_bu (w_fX5_putPairAt hσ13) (fun σ15 hσ15 => zpc_bi (w_fX5_pairAt hσ15) (fun σ16 v17 hσ16 => zpc_bu (w_fX5_putPairAt hσ16) (fun σ18 hσ18 => zpc_bi (w_fX5_pairAt hσ18) (fun σ19 v20 hσ19 => zpc_if (fun _ => w_fX5_copyOne_78 hσ19) (fun _ => w_fX5_copyOne_78 hσ19))))))))))))
theorem w_fX5_block_88 {σ0 : zSt} {σ : zSt} (h : zKeC σ0 σ) : zpc (fX5_block_88 σ) (fun r => zKeC σ0 (r.1)) := by
  unfold fX5_block_88
  exact zpc_some h
theorem w_fX5_block_135 {σ0 : zSt} {σ : zSt} (h : zKeC σ0 σ) : zpc (fX5_block_135 σ) (fun r => zKeC σ0 (r.1)) := by
  unfold fX5_block_135
  exact zpc_some h
theorem w_fX5_block_77 {σ0 : zSt} {σ : zSt} {x1 : Int32} {x3 : Int32} (h : zKeC σ0 σ) : zpc (fX5_block_77 σ x1 x3) (fun r => zKeC σ0 (r.1)) := by
  unfold fX5_block_77
  exact zpc_if (fun _ => w_fX5_block_88 h) (fun _ => zpc_if (fun _ => w_fX5_block_88 h) (fun _ => zpc_ck (zpc_ck (zpc_bs (zKeC.wi h (by decide)) (fun σ1 hσ1 => zpc_if (fun _ => zpc_ck (zpc_ck (zpc_bs (zKeC.wi hσ1 (by decide)) (fun σ2 hσ2 => w_fX5_block_135 hσ2)))) (fun _ => w_fX5_block_135 hσ1))))))
theorem w_fX5_block_12 {σ0 : zSt} {σ : zSt} {x1 : Int32} {s0 : Int32} (h : zKeC σ0 σ) : zpc (fX5_block_12 σ x1 s0) (fun r => zKeC σ0 (r.1)) := by
  unfold fX5_block_12
  exact zpc_if (fun _ => zpc_bi (w_fX5_copyOne h) (fun σ3 v4 hσ3 => w_fX5_block_77 hσ3)) (fun _ => zpc_if (fun _ => zpc_bi (w_fX5_compareOne h) (fun σ5 v6 hσ5 => w_fX5_block_77 hσ5)) (fun _ => zpc_if (fun _ => zpc_bi (w_fX5_takeOne h) (fun σ7 v8 hσ7 => w_fX5_block_77 hσ7)) (fun _ => zpc_bi (w_fX5_giveOne h) (fun σ9 v10 hσ9 => w_fX5_block_77 hσ9))))
theorem w_fX5_block {σ0 : zSt} {σ : zSt} {x1 : Int32} (h : zKeC σ0 σ) : zpc (fX5_block σ x1) (fun r => zKeC σ0 (r.1)) := by
  unfold fX5_block
  exact zpc_if (fun _ => w_fX5_block_12 h) (fun _ => w_fX5_block_12 h)
theorem w_fX5_turnDigits_102 {σ0 : zSt} {σ : zSt} {s0 : Int32} {s1 : Int32} {s2 : Int32} (h : zKeC σ0 σ) : zpc (fX5_turnDigits_102 σ s0 s1 s2) (fun r => zKeC σ0 (r)) := by
  unfold fX5_turnDigits_102
  exact zpc_ck (zpc_bs (zKeC.wi h (by decide)) (fun σ1 hσ1 => zpc_ck (zpc_ck (zpc_bi (w_fX5_by hσ1) (fun σ2 v3 hσ2 => zpc_ck (zpc_bi (w_fX5_parity hσ2) (fun σ4 v5 hσ4 => zpc_ck (zpc_bs (zKeC.wi hσ4 (by decide)) (fun σ6 hσ6 => zpc_some hσ6)))))))))
theorem w_fX5_turnDigits_70 {σ0 : zSt} {σ : zSt} {x1 : Int32} {x3 : Int32} {s0 : Int32} {s1 : Int32} (h : zKeC σ0 σ) : zpc (fX5_turnDigits_70 σ x1 x3 s0 s1) (fun r => zKeC σ0 (r)) := by
  unfold fX5_turnDigits_70
  exact zpc_bu (w_fX2_write h) (fun σ7 hσ7 => zpc_ck (zpc_if (fun _ => w_fX5_turnDigits_102 hσ7) (fun _ => w_fX5_turnDigits_102 hσ7)))
theorem w_fX5_turnDigits {σ0 : zSt} {σ : zSt} {x1 : Int32} (h : zKeC σ0 σ) : zpc (fX5_turnDigits σ x1) (fun r => zKeC σ0 (r)) := by
  unfold fX5_turnDigits
  exact zpc_bi (w_fX5_pairAt h) (fun σ8 v9 hσ8 => zpc_bi (w_fX2_read hσ8) (fun σ10 v11 hσ10 => zpc_ck (zpc_bv (fun v12 _ => zpc_ck (zpc_bs (zKeC.wi hσ10 (by decide)) (fun σ13 hσ13 => zpc_if (fun _ => w_fX5_turnDigits_70 hσ13) (fun _ => w_fX5_turnDigits_70 hσ13)))))))
theorem w_fX5_moreOfA_139 {σ0 : zSt} {σ : zSt} {s0 : Int32} {s1 : Int32} {s2 : Int32} (h : zKeC σ0 σ) : zpc (fX5_moreOfA_139 σ s0 s1 s2) (fun r => zKeC σ0 (r.1)) := by
  unfold fX5_moreOfA_139
  exact zpc_ck (zpc_bs (zKeC.wi h (by decide)) (fun σ1 hσ1 => zpc_some hσ1))
theorem w_fX5_moreOfA_99 {σ0 : zSt} {σ : zSt} {s0 : Int32} {s1 : Int32} (h : zKeC σ0 σ) : zpc (fX5_moreOfA_99 σ s0 s1) (fun r => zKeC σ0 (r.1)) := by
  unfold fX5_moreOfA_99
  exact zpc_ck (zpc_bs (zKeC.wi h (by decide)) (fun σ2 hσ2 => zpc_ck (zpc_ck (zpc_bi (w_fX5_by hσ2) (fun σ3 v4 hσ3 => zpc_ck (zpc_if (fun _ => w_fX5_moreOfA_139 hσ3) (fun _ => w_fX5_moreOfA_139 hσ3)))))))
theorem w_fX5_moreOfA_72 {σ0 : zSt} {σ : zSt} {x1 : Int32} (h : zKeC σ0 σ) : zpc (fX5_moreOfA_72 σ x1) (fun r => zKeC σ0 (r.1)) := by
  unfold fX5_moreOfA_72
  exact zpc_if (fun _ => zpc_ck (w_fX5_moreOfA_99 h)) (fun _ => zpc_ck (w_fX5_moreOfA_99 h))
theorem w_fX5_moreOfA_155 {σ0 : zSt} {σ : zSt} {s0 : Int32} (h : zKeC σ0 σ) : zpc (fX5_moreOfA_155 σ s0) (fun r => zKeC σ0 (r.1)) := by
  unfold fX5_moreOfA_155
  exact zpc_bu (w_fX5_turnDigits h) (fun σ5 hσ5 => zpc_some hσ5)
theorem w_fX5_moreOfA_144 {σ0 : zSt} {σ : zSt} {x1 : Int32} (h : zKeC σ0 σ) : zpc (fX5_moreOfA_144 σ x1) (fun r => zKeC σ0 (r.1)) := by
  unfold fX5_moreOfA_144
  exact zpc_if (fun _ => w_fX5_moreOfA_155 h) (fun _ => w_fX5_moreOfA_155 h)
theorem w_fX5_moreOfA {σ0 : zSt} {σ : zSt} {x1 : Int32} (h : zKeC σ0 σ) : zpc (fX5_moreOfA σ x1) (fun r => zKeC σ0 (r.1)) := by
  unfold fX5_moreOfA
  exact zpc_if (fun _ => zpc_ck (zpc_ck (zpc_bs (zKeC.wi h (by decide)) (fun σ6 hσ6 => zpc_some hσ6)))) (fun _ => zpc_if (fun _ => zpc_ck (zpc_ck (zpc_bs (zKeC.wi h (by decide)) (fun σ7 hσ7 => zpc_some hσ7)))) (fun _ => zpc_if (fun _ => w_fX5_moreOfA_72 h) (fun _ => zpc_if (fun _ => w_fX5_moreOfA_72 h) (fun _ => zpc_if (fun _ => w_fX5_moreOfA_144 h) (fun _ => zpc_if (fun _ => w_fX5_moreOfA_144 h) (fun _ => zpc_some h))))))
theorem w_fX5_pop {σ0 : zSt} {σ : zSt} (h : zKeC σ0 σ) : zpc (fX5_pop σ) (fun r => zKeC σ0 (r.1)) := by
  unfold fX5_pop
  exact zpc_ck (zpc_bi (w_fX2_read h) (fun σ1 v2 hσ1 => zpc_ck (zpc_bi (w_fX2_read hσ1) (fun σ3 v4 hσ3 => zpc_bv (fun v5 _ => zpc_ck (zpc_ck (zpc_bs (zKeC.wi hσ3 (by decide)) (fun σ6 hσ6 => zpc_some hσ6))))))))
theorem w_fX5_difference_72 {σ0 : zSt} {σ : zSt} {x5 : Int32} {s0 : Int32} {s1 : Int32} {s2 : Int32} (h : zKeC σ0 σ) : zpc (fX5_difference_72 σ x5 s0 s1 s2) (fun r => zKeC σ0 (r.1)) := by
  unfold fX5_difference_72
  exact zpc_ck (zpc_bs (zKeC.wi h (by decide)) (fun σ1 hσ1 => zpc_some hσ1))
theorem w_fX5_difference_59 {σ0 : zSt} {σ : zSt} {x4 : Int32} {x5 : Int32} {s0 : Int32} {s1 : Int32} {s2 : Int32} (h : zKeC σ0 σ) : zpc (fX5_difference_59 σ x4 x5 s0 s1 s2) (fun r => zKeC σ0 (r.1)) := by
  unfold fX5_difference_59
  exact zpc_if (fun _ => w_fX5_difference_72 h) (fun _ => w_fX5_difference_72 h)
theorem w_fX5_difference {σ0 : zSt} {σ : zSt} {x1 : Int32} {x2 : Int32} {x3 : Int32} (h : zKeC σ0 σ) : zpc (fX5_difference σ x1 x2 x3) (fun r => zKeC σ0 (r.1)) := by
  unfold fX5_difference
  exact zpc_bv (fun v2 _ => zpc_bv (fun v3 _ => zpc_bv (fun v4 _ => zpc_bi (w_fX5_by h) (fun σ5 v6 hσ5 => zpc_if (fun _ => w_fX5_difference_59 hσ5) (fun _ => w_fX5_difference_59 hσ5)))))
theorem w_fX5_fetchWord {σ0 : zSt} {σ : zSt} (h : zKeC σ0 σ) : zpc (fX5_fetchWord σ) (fun r => zKeC σ0 (r.1)) := by
  unfold fX5_fetchWord
  exact zpc_ck (zpc_bi (w_fX2_read h) (fun σ1 v2 hσ1 => zpc_ck (zpc_bi (w_fX2_read hσ1) (fun σ3 v4 hσ3 => zpc_bv (fun v5 _ => zpc_ck (zpc_ck (zpc_bs (zKeC.wi hσ3 (by decide)) (fun σ6 hσ6 => zpc_some hσ6))))))))
theorem w_fX5_hl_27 {σ0 : zSt} {σ : zSt} {s0 : Int32} (h : zKeC σ0 σ) : zpc (fX5_hl_27 σ s0) (fun r => zKeC σ0 (r.1)) := by
  unfold fX5_hl_27
  exact zpc_some h
theorem w_fX5_hl {σ0 : zSt} {σ : zSt} (h : zKeC σ0 σ) : zpc (fX5_hl σ) (fun r => zKeC σ0 (r.1)) := by
  unfold fX5_hl
  exact zpc_if (fun _ => zpc_bi (w_fX5_pairAt h) (fun σ1 v2 hσ1 => w_fX5_hl_27 hσ1)) (fun _ => zpc_ck (w_fX5_hl_27 h))
theorem w_fX5_pair {σ0 : zSt} {σ : zSt} {x1 : Int32} (h : zKeC σ0 σ) : zpc (fX5_pair σ x1) (fun r => zKeC σ0 (r.1)) := by
  unfold fX5_pair
  exact zpc_if (fun _ => zpc_bi (w_fX5_pairAt h) (fun σ1 v2 hσ1 => zpc_some hσ1)) (fun _ => zpc_if (fun _ => zpc_bi (w_fX5_pairAt h) (fun σ3 v4 hσ3 => zpc_some hσ3)) (fun _ => zpc_if (fun _ => zpc_bi (w_fX5_hl h) (fun σ5 v6 hσ5 => zpc_some hσ5)) (fun _ => zpc_ck (zpc_some h))))
theorem w_fX5_writeWord {σ0 : zSt} {σ : zSt} {x1 : Int32} {x2 : Int32} (h : zKeC σ0 σ) : zpc (fX5_writeWord σ x1 x2) (fun r => zKeC σ0 (r)) := by
  unfold fX5_writeWord
  exact zpc_bu (w_fX2_write h) (fun σ1 hσ1 => zpc_bu (w_fX2_write hσ1) (fun σ2 hσ2 => zpc_some hσ2))
theorem w_fX5_putHl_32 {σ0 : zSt} {σ : zSt} (h : zKeC σ0 σ) : zpc (fX5_putHl_32 σ) (fun r => zKeC σ0 (r)) := by
  unfold fX5_putHl_32
  exact zpc_some h
theorem w_fX5_putHl {σ0 : zSt} {σ : zSt} {x1 : Int32} (h : zKeC σ0 σ) : zpc (fX5_putHl σ x1) (fun r => zKeC σ0 (r)) := by
  unfold fX5_putHl
  exact zpc_if (fun _ => zpc_bu (w_fX5_putPairAt h) (fun σ2 hσ2 => w_fX5_putHl_32 hσ2)) (fun _ => zpc_ck (zpc_bs (zKeC.wi h (by decide)) (fun σ1 hσ1 => w_fX5_putHl_32 hσ1)))
theorem w_fX5_putPair_65 {σ0 : zSt} {σ : zSt} (h : zKeC σ0 σ) : zpc (fX5_putPair_65 σ) (fun r => zKeC σ0 (r)) := by
  unfold fX5_putPair_65
  exact zpc_some h
theorem w_fX5_putPair {σ0 : zSt} {σ : zSt} {x1 : Int32} {x2 : Int32} (h : zKeC σ0 σ) : zpc (fX5_putPair σ x1 x2) (fun r => zKeC σ0 (r)) := by
  unfold fX5_putPair
  exact zpc_if (fun _ => zpc_bu (w_fX5_putPairAt h) (fun σ1 hσ1 => w_fX5_putPair_65 hσ1)) (fun _ => zpc_if (fun _ => zpc_bu (w_fX5_putPairAt h) (fun σ2 hσ2 => w_fX5_putPair_65 hσ2)) (fun _ => zpc_if (fun _ => zpc_bu (w_fX5_putHl h) (fun σ3 hσ3 => w_fX5_putPair_65 hσ3)) (fun _ => zpc_ck (zpc_bs (zKeC.wi h (by decide)) (fun σ4 hσ4 => w_fX5_putPair_65 hσ4)))))
theorem w_fX5_farPair_51 {σ0 : zSt} {σ : zSt} (h : zKeC σ0 σ) : zpc (fX5_farPair_51 σ) (fun r => zKeC σ0 (r.1)) := by
  unfold fX5_farPair_51
  exact zpc_some h
theorem w_fX5_farPair {σ0 : zSt} {σ : zSt} {x1 : Int32} (h : zKeC σ0 σ) : zpc (fX5_farPair σ x1) (fun r => zKeC σ0 (r.1)) := by
  unfold fX5_farPair
  exact zpc_bi (w_fX5_fetchWord h) (fun σ1 v2 hσ1 => zpc_ck (zpc_bs (zKeC.wi hσ1 (by decide)) (fun σ3 hσ3 => zpc_if (fun _ => zpc_bi (w_fX5_pair hσ3) (fun σ7 v8 hσ7 => zpc_bu (w_fX5_writeWord hσ7) (fun σ9 hσ9 => w_fX5_farPair_51 hσ9))) (fun _ => zpc_bi (w_fX5_readWord hσ3) (fun σ4 v5 hσ4 => zpc_bu (w_fX5_putPair hσ4) (fun σ6 hσ6 => w_fX5_farPair_51 hσ6))))))
theorem w_fX5_putWide_44 {σ0 : zSt} {σ : zSt} {x1 : Int32} {x2 : Int32} {x3 : Int32} {s0 : Int32} {s1 : Int32} {s2 : Int32} (h : zKeC σ0 σ) : zpc (fX5_putWide_44 σ x1 x2 x3 s0 s1 s2) (fun r => zKeC σ0 (r)) := by
  unfold fX5_putWide_44
  exact zpc_ck (zpc_bs (zKeC.wi h (by decide)) (fun σ1 hσ1 => zpc_some hσ1))
theorem w_fX5_putWide {σ0 : zSt} {σ : zSt} {x1 : Int32} {x2 : Int32} {x3 : Int32} (h : zKeC σ0 σ) : zpc (fX5_putWide σ x1 x2 x3) (fun r => zKeC σ0 (r)) := by
  unfold fX5_putWide
  exact zpc_ck (zpc_bs (zKeC.wi h (by decide)) (fun σ2 hσ2 => zpc_bu (w_fX5_putHl hσ2) (fun σ3 hσ3 => zpc_if (fun _ => w_fX5_putWide_44 hσ3) (fun _ => w_fX5_putWide_44 hσ3))))
theorem w_fX5_takePair_63 {σ0 : zSt} {σ : zSt} {s0 : Int32} {s1 : Int32} {s2 : Int32} (h : zKeC σ0 σ) : zpc (fX5_takePair_63 σ s0 s1 s2) (fun r => zKeC σ0 (r.1)) := by
  unfold fX5_takePair_63
  exact zpc_ck (zpc_bs (zKeC.wi h (by decide)) (fun σ1 hσ1 => zpc_some hσ1))
theorem w_fX5_takePair {σ0 : zSt} {σ : zSt} {x1 : Int32} (h : zKeC σ0 σ) : zpc (fX5_takePair σ x1) (fun r => zKeC σ0 (r.1)) := by
  unfold fX5_takePair
  exact zpc_bi (w_fX5_hl h) (fun σ2 v3 hσ2 => zpc_bi (w_fX5_pair hσ2) (fun σ4 v5 hσ4 => zpc_ck (zpc_bv (fun v6 _ => zpc_bu (w_fX5_putWide hσ4) (fun σ7 hσ7 => zpc_bv (fun v8 _ => zpc_ck (zpc_if (fun _ => w_fX5_takePair_63 hσ7) (fun _ => w_fX5_takePair_63 hσ7))))))))
theorem w_fX5_addPairAndCarry_65 {σ0 : zSt} {σ : zSt} {s0 : Int32} {s1 : Int32} {s2 : Int32} (h : zKeC σ0 σ) : zpc (fX5_addPairAndCarry_65 σ s0 s1 s2) (fun r => zKeC σ0 (r.1)) := by
  unfold fX5_addPairAndCarry_65
  exact zpc_ck (zpc_bs (zKeC.wi h (by decide)) (fun σ1 hσ1 => zpc_some hσ1))
theorem w_fX5_addPairAndCarry {σ0 : zSt} {σ : zSt} {x1 : Int32} (h : zKeC σ0 σ) : zpc (fX5_addPairAndCarry σ x1) (fun r => zKeC σ0 (r.1)) := by
  unfold fX5_addPairAndCarry
  exact zpc_bi (w_fX5_hl h) (fun σ2 v3 hσ2 => zpc_bi (w_fX5_pair hσ2) (fun σ4 v5 hσ4 => zpc_ck (zpc_bv (fun v6 _ => zpc_bu (w_fX5_putWide hσ4) (fun σ7 hσ7 => zpc_bv (fun v8 _ => zpc_ck (zpc_if (fun _ => w_fX5_addPairAndCarry_65 hσ7) (fun _ => w_fX5_addPairAndCarry_65 hσ7))))))))
theorem w_fX5_takeFromPort_26 {σ0 : zSt} {σ : zSt} {x2 : Int32} (h : zKeC σ0 σ) : zpc (fX5_takeFromPort_26 σ x2) (fun r => zKeC σ0 (r)) := by
  unfold fX5_takeFromPort_26
  exact zpc_ck (zpc_bi (w_fX5_by h) (fun σ1 v2 hσ1 => zpc_bi (w_fX5_parity hσ1) (fun σ3 v4 hσ3 => zpc_ck (zpc_bs (zKeC.wi hσ3 (by decide)) (fun σ5 hσ5 => zpc_some hσ5)))))
theorem w_fX5_takeFromPort {σ0 : zSt} {σ : zSt} {x1 : Int32} (h : zKeC σ0 σ) : zpc (fX5_takeFromPort σ x1) (fun r => zKeC σ0 (r)) := by
  unfold fX5_takeFromPort
  exact zpc_ck (zpc_bi (w_fX4_read h) (fun σ6 v7 hσ6 => zpc_if (fun _ => w_fX5_takeFromPort_26 hσ6) (fun _ => zpc_bu (w_fX5_putOne hσ6) (fun σ8 hσ8 => w_fX5_takeFromPort_26 hσ8))))
theorem w_fX5_behindEd_160 {σ0 : zSt} {σ : zSt} {s0 : Int32} (h : zKeC σ0 σ) : zpc (fX5_behindEd_160 σ s0) (fun r => zKeC σ0 (r.1)) := by
  unfold fX5_behindEd_160
  exact zpc_some h
theorem w_fX5_behindEd_131 {σ0 : zSt} {σ : zSt} {s0 : Int32} {s1 : Int32} (h : zKeC σ0 σ) : zpc (fX5_behindEd_131 σ s0 s1) (fun r => zKeC σ0 (r.1)) := by
  unfold fX5_behindEd_131
  exact zpc_bu (w_fX4_write h) (fun σ1 hσ1 => zpc_some hσ1)
theorem w_fX5_behindEd {σ0 : zSt} {σ : zSt} {x1 : Int32} (h : zKeC σ0 σ) : zpc (fX5_behindEd σ x1) (fun r => zKeC σ0 (r.1)) := by
  unfold fX5_behindEd
  exact zpc_if (fun _ => zpc_bv (fun v2 _ => zpc_if (fun _ => zpc_bi (w_fX5_pairAt h) (fun σ3 v4 hσ3 => zpc_ck (zpc_bs (zKeC.wi hσ3 (by decide)) (fun σ5 hσ5 => zpc_bu (w_fX5_takeFromPort hσ5) (fun σ6 hσ6 => zpc_some hσ6))))) (fun _ => zpc_if (fun _ => zpc_bi (w_fX5_pairAt h) (fun σ7 v8 hσ7 => zpc_ck (zpc_bs (zKeC.wi hσ7 (by decide)) (fun σ9 hσ9 => zpc_ck (zpc_if (fun _ => w_fX5_behindEd_131 hσ9) (fun _ => zpc_bi (w_fX5_one hσ9) (fun σ10 v11 hσ10 => w_fX5_behindEd_131 hσ10))))))) (fun _ => zpc_if (fun _ => zpc_if (fun _ => zpc_bi (w_fX5_takePair h) (fun σ14 v15 hσ14 => w_fX5_behindEd_160 hσ14)) (fun _ => zpc_bi (w_fX5_addPairAndCarry h) (fun σ12 v13 hσ12 => w_fX5_behindEd_160 hσ12))) (fun _ => zpc_if (fun _ => zpc_bi (w_fX5_farPair h) (fun σ16 v17 hσ16 => zpc_some hσ16)) (fun _ => zpc_if (fun _ => zpc_ck (zpc_bi (w_fX5_difference h) (fun σ18 v19 hσ18 => zpc_ck (zpc_bs (zKeC.wi hσ18 (by decide)) (fun σ20 hσ20 => zpc_some hσ20))))) (fun _ => zpc_if (fun _ => zpc_bi (w_fX5_pop h) (fun σ21 v22 hσ21 => zpc_bu (w_fX5_goTo hσ21) (fun σ23 hσ23 => zpc_ck (zpc_ck (zpc_bs (zKeC.wi hσ23 (by decide)) (fun σ24 hσ24 => zpc_some hσ24)))))) (fun _ => zpc_if (fun _ => zpc_ck (zpc_bs (zKeC.wi h (by decide)) (fun σ25 hσ25 => zpc_some hσ25))) (fun _ => zpc_bi (w_fX5_moreOfA h) (fun σ26 v27 hσ26 => zpc_some hσ26)))))))))) (fun _ => zpc_some h)
theorem w_fX5_exchange_211 {σ0 : zSt} {σ : zSt} {x1 : Int32} (h : zKeC σ0 σ) : zpc (fX5_exchange_211 σ x1) (fun r => zKeC σ0 (r.1)) := by
  unfold fX5_exchange_211
  exact zpc_ck (zpc_bs (zKeC.wi h (by decide)) (fun σ1 hσ1 => zpc_ck (zpc_bs (zKeC.wi hσ1 (by decide)) (fun σ2 hσ2 => zpc_ck (zpc_bs (zKeC.wi hσ2 (by decide)) (fun σ3 hσ3 => zpc_some hσ3))))))
theorem w_fX5_exchange {σ0 : zSt} {σ : zSt} {x1 : Int32} (h : zKeC σ0 σ) : zpc (fX5_exchange σ x1) (fun r => zKeC σ0 (r.1)) := by
  unfold fX5_exchange
  exact zpc_if (fun _ => zpc_bi (w_fX5_fetchWord h) (fun σ4 v5 hσ4 => zpc_bu (w_fX5_goTo hσ4) (fun σ6 hσ6 => zpc_some hσ6))) (fun _ => zpc_if (fun _ => w_fX5_exchange_211 h) (fun _ => zpc_if (fun _ => zpc_bi (w_fX5_fetch h) (fun σ7 v8 hσ7 => zpc_ck (zpc_bu (w_fX4_write hσ7) (fun σ9 hσ9 => zpc_ck (zpc_ck (zpc_bs (zKeC.wi hσ9 (by decide)) (fun σ10 hσ10 => zpc_some hσ10))))))) (fun _ => zpc_if (fun _ => zpc_bi (w_fX5_fetch h) (fun σ11 v12 hσ11 => zpc_ck (zpc_ck (zpc_bs (zKeC.wi hσ11 (by decide)) (fun σ13 hσ13 => zpc_bi (w_fX4_read hσ13) (fun σ14 v15 hσ14 => zpc_ck (zpc_bs (zKeC.wi hσ14 (by decide)) (fun σ16 hσ16 => zpc_some hσ16)))))))) (fun _ => zpc_if (fun _ => zpc_ck (zpc_bi (w_fX5_readWord h) (fun σ17 v18 hσ17 => zpc_ck (zpc_bi (w_fX5_hl hσ17) (fun σ19 v20 hσ19 => zpc_bu (w_fX5_writeWord hσ19) (fun σ21 hσ21 => zpc_bu (w_fX5_putHl hσ21) (fun σ22 hσ22 => zpc_ck (zpc_bs (zKeC.wi hσ22 (by decide)) (fun σ23 hσ23 => zpc_some hσ23))))))))) (fun _ => zpc_if (fun _ => zpc_bi (w_fX5_pairAt h) (fun σ24 v25 hσ24 => zpc_bi (w_fX5_pairAt hσ24) (fun σ26 v27 hσ26 => zpc_bu (w_fX5_putPairAt hσ26) (fun σ28 hσ28 => zpc_bu (w_fX5_putPairAt hσ28) (fun σ29 hσ29 => zpc_some hσ29))))) (fun _ => w_fX5_exchange_211 h))))))
theorem w_fX5_sum_61 {σ0 : zSt} {σ : zSt} {x4 : Int32} {x5 : Int32} {s0 : Int32} {s1 : Int32} {s2 : Int32} (h : zKeC σ0 σ) : zpc (fX5_sum_61 σ x4 x5 s0 s1 s2) (fun r => zKeC σ0 (r.1)) := by
  unfold fX5_sum_61
  exact zpc_ck (zpc_bs (zKeC.wi h (by decide)) (fun σ1 hσ1 => zpc_some hσ1))
theorem w_fX5_sum {σ0 : zSt} {σ : zSt} {x1 : Int32} {x2 : Int32} {x3 : Int32} (h : zKeC σ0 σ) : zpc (fX5_sum σ x1 x2 x3) (fun r => zKeC σ0 (r.1)) := by
  unfold fX5_sum
  exact zpc_bv (fun v2 _ => zpc_bv (fun v3 _ => zpc_bv (fun v4 _ => zpc_bi (w_fX5_by h) (fun σ5 v6 hσ5 => zpc_if (fun _ => w_fX5_sum_61 hσ5) (fun _ => w_fX5_sum_61 hσ5)))))
theorem w_fX5_doWith_292 {σ0 : zSt} {σ : zSt} (h : zKeC σ0 σ) : zpc (fX5_doWith_292 σ) (fun r => zKeC σ0 (r)) := by
  unfold fX5_doWith_292
  exact zpc_some h
theorem w_fX5_doWith {σ0 : zSt} {σ : zSt} {x1 : Int32} {x2 : Int32} (h : zKeC σ0 σ) : zpc (fX5_doWith σ x1 x2) (fun r => zKeC σ0 (r)) := by
  unfold fX5_doWith
  exact zpc_if (fun _ => zpc_ck (zpc_bi (w_fX5_sum h) (fun σ1 v2 hσ1 => zpc_ck (zpc_bs (zKeC.wi hσ1 (by decide)) (fun σ3 hσ3 => w_fX5_doWith_292 hσ3))))) (fun _ => zpc_if (fun _ => zpc_ck (zpc_ck (zpc_bi (w_fX5_sum h) (fun σ4 v5 hσ4 => zpc_ck (zpc_bs (zKeC.wi hσ4 (by decide)) (fun σ6 hσ6 => w_fX5_doWith_292 hσ6)))))) (fun _ => zpc_if (fun _ => zpc_ck (zpc_bi (w_fX5_difference h) (fun σ7 v8 hσ7 => zpc_ck (zpc_bs (zKeC.wi hσ7 (by decide)) (fun σ9 hσ9 => w_fX5_doWith_292 hσ9))))) (fun _ => zpc_if (fun _ => zpc_ck (zpc_ck (zpc_bi (w_fX5_difference h) (fun σ10 v11 hσ10 => zpc_ck (zpc_bs (zKeC.wi hσ10 (by decide)) (fun σ12 hσ12 => w_fX5_doWith_292 hσ12)))))) (fun _ => zpc_if (fun _ => zpc_ck (zpc_ck (zpc_bs (zKeC.wi h (by decide)) (fun σ13 hσ13 => zpc_ck (zpc_bi (w_fX5_by hσ13) (fun σ14 v15 hσ14 => zpc_ck (zpc_bi (w_fX5_parity hσ14) (fun σ16 v17 hσ16 => zpc_ck (zpc_bs (zKeC.wi hσ16 (by decide)) (fun σ18 hσ18 => w_fX5_doWith_292 hσ18)))))))))) (fun _ => zpc_if (fun _ => zpc_ck (zpc_ck (zpc_bs (zKeC.wi h (by decide)) (fun σ19 hσ19 => zpc_ck (zpc_bi (w_fX5_by hσ19) (fun σ20 v21 hσ20 => zpc_ck (zpc_bi (w_fX5_parity hσ20) (fun σ22 v23 hσ22 => zpc_ck (zpc_bs (zKeC.wi hσ22 (by decide)) (fun σ24 hσ24 => w_fX5_doWith_292 hσ24)))))))))) (fun _ => zpc_if (fun _ => zpc_ck (zpc_ck (zpc_bs (zKeC.wi h (by decide)) (fun σ25 hσ25 => zpc_ck (zpc_bi (w_fX5_by hσ25) (fun σ26 v27 hσ26 => zpc_ck (zpc_bi (w_fX5_parity hσ26) (fun σ28 v29 hσ28 => zpc_ck (zpc_bs (zKeC.wi hσ28 (by decide)) (fun σ30 hσ30 => w_fX5_doWith_292 hσ30)))))))))) (fun _ => zpc_ck (zpc_bi (w_fX5_difference h) (fun σ31 v32 hσ31 => zpc_ck (zpc_ck (zpc_bs (zKeC.wi hσ31 (by decide)) (fun σ33 hσ33 => w_fX5_doWith_292 hσ33))))))))))))
theorem w_fX5_callIf {σ0 : zSt} {σ : zSt} {x1 : Int32} (h : zKeC σ0 σ) : zpc (fX5_callIf σ x1) (fun r => zKeC σ0 (r.1)) := by
  unfold fX5_callIf
  exact zpc_bi (w_fX5_fetchWord h) (fun σ1 v2 hσ1 => zpc_ck (zpc_bs (zKeC.wi hσ1 (by decide)) (fun σ3 hσ3 => zpc_if (fun _ => zpc_some hσ3) (fun _ => zpc_ck (zpc_bu (w_fX5_push hσ3) (fun σ4 hσ4 => zpc_ck (zpc_bs (zKeC.wi hσ4 (by decide)) (fun σ5 hσ5 => zpc_some hσ5))))))))
theorem w_fX5_holds_44 {σ0 : zSt} {σ : zSt} {s0 : Int32} (h : zKeC σ0 σ) : zpc (fX5_holds_44 σ s0) (fun r => zKeC σ0 (r.1)) := by
  unfold fX5_holds_44
  exact zpc_ck (zpc_some h)
theorem w_fX5_holds_36 {σ0 : zSt} {σ : zSt} {s0 : Int32} {s1 : Int32} (h : zKeC σ0 σ) : zpc (fX5_holds_36 σ s0 s1) (fun r => zKeC σ0 (r.1)) := by
  unfold fX5_holds_36
  exact zpc_if (fun _ => w_fX5_holds_44 h) (fun _ => w_fX5_holds_44 h)
theorem w_fX5_holds_24 {σ0 : zSt} {σ : zSt} {x1 : Int32} {s0 : Int32} (h : zKeC σ0 σ) : zpc (fX5_holds_24 σ x1 s0) (fun r => zKeC σ0 (r.1)) := by
  unfold fX5_holds_24
  exact zpc_if (fun _ => w_fX5_holds_36 h) (fun _ => w_fX5_holds_36 h)
theorem w_fX5_holds {σ0 : zSt} {σ : zSt} {x1 : Int32} (h : zKeC σ0 σ) : zpc (fX5_holds σ x1) (fun r => zKeC σ0 (r.1)) := by
  unfold fX5_holds
  exact zpc_ck (zpc_ck (zpc_if (fun _ => w_fX5_holds_24 h) (fun _ => w_fX5_holds_24 h)))
theorem w_fX5_popPair_25 {σ0 : zSt} {σ : zSt} (h : zKeC σ0 σ) : zpc (fX5_popPair_25 σ) (fun r => zKeC σ0 (r.1)) := by
  unfold fX5_popPair_25
  exact zpc_some h
theorem w_fX5_popPair {σ0 : zSt} {σ : zSt} {x1 : Int32} (h : zKeC σ0 σ) : zpc (fX5_popPair σ x1) (fun r => zKeC σ0 (r.1)) := by
  unfold fX5_popPair
  exact zpc_bi (w_fX5_pop h) (fun σ1 v2 hσ1 => zpc_if (fun _ => zpc_bu (w_fX5_putPairAt hσ1) (fun σ4 hσ4 => w_fX5_popPair_25 hσ4)) (fun _ => zpc_bu (w_fX5_putPair hσ1) (fun σ3 hσ3 => w_fX5_popPair_25 hσ3)))
theorem w_fX5_changeWithOther {σ0 : zSt} {σ : zSt} {x1 : Int32} (h : zKeC σ0 σ) : zpc (fX5_changeWithOther σ x1) (fun r => zKeC σ0 (r)) := by
  unfold fX5_changeWithOther
  exact zpc_ck (zpc_bv (fun v1 _ => zpc_ck (zpc_ck (zpc_bs (zKeC.wi h (by decide)) (fun σ2 hσ2 => zpc_ck (zpc_bs (zKeC.wi hσ2 (by decide)) (fun σ3 hσ3 => zpc_some hσ3)))))))
theorem w_fX5_leave_41_body {σ0 : zSt} {k41 : zSt → Int32 → Option (zSt × Int32)} (hk41 : ∀ (y0 : zSt) (y1 : Int32), zKeC σ0 y0 → zpc (k41 y0 y1) (fun r => zKeC σ0 (r.1))) {σ : zSt} {x2 : Int32} (h : zKeC σ0 σ) : zpc (fX5_leave_41_body k41 σ x2) (fun r => zKeC σ0 (r.1)) := by
  unfold fX5_leave_41_body
  exact zpc_if (fun _ => zpc_some h) (fun _ => zpc_bu (w_fX5_changeWithOther h) (fun σ1 hσ1 => zpc_bv (fun v2 _ => hk41 _ _ hσ1)))
theorem w_fX5_leave_41 {σ0 : zSt} : ∀ (n : Nat) (y0 : zSt) (y1 : Int32), zKeC σ0 y0 → zpc (fX5_leave_41 n y0 y1) (fun r => zKeC σ0 (r.1)) := by
  intro n
  induction n with
  | zero => intro y0 y1 h; exact zpc_none
  | succ n ih => intro y0 y1 h; exact w_fX5_leave_41_body ih h
theorem w_fX5_leave {σ0 : zSt} {σ : zSt} {x1 : Int32} (h : zKeC σ0 σ) : zpc (fX5_leave σ x1) (fun r => zKeC σ0 (r.1)) := by
  unfold fX5_leave
  exact zpc_if (fun _ => zpc_bi (w_fX5_pop h) (fun σ3 v4 hσ3 => zpc_bu (w_fX5_goTo hσ3) (fun σ5 hσ5 => zpc_some hσ5))) (fun _ => zpc_if (fun _ => w_fX5_leave_41 _ _ _ h) (fun _ => zpc_if (fun _ => zpc_bi (w_fX5_hl h) (fun σ6 v7 hσ6 => zpc_ck (zpc_bs (zKeC.wi hσ6 (by decide)) (fun σ8 hσ8 => zpc_some hσ8)))) (fun _ => zpc_bi (w_fX5_hl h) (fun σ9 v10 hσ9 => zpc_ck (zpc_bs (zKeC.wi hσ9 (by decide)) (fun σ11 hσ11 => zpc_some hσ11))))))
theorem w_fX5_lastQuarter_196 {σ0 : zSt} {σ : zSt} {x2 : Int32} (h : zKeC σ0 σ) : zpc (fX5_lastQuarter_196 σ x2) (fun r => zKeC σ0 (r.1)) := by
  unfold fX5_lastQuarter_196
  exact zpc_ck (zpc_bu (w_fX5_push h) (fun σ1 hσ1 => zpc_bu (w_fX5_goTo hσ1) (fun σ2 hσ2 => zpc_some hσ2)))
theorem w_fX5_lastQuarter_178 {σ0 : zSt} {σ : zSt} {s0 : Int32} (h : zKeC σ0 σ) : zpc (fX5_lastQuarter_178 σ s0) (fun r => zKeC σ0 (r.1)) := by
  unfold fX5_lastQuarter_178
  exact zpc_bu (w_fX5_push h) (fun σ3 hσ3 => zpc_some hσ3)
theorem w_fX5_lastQuarter_130 {σ0 : zSt} {σ : zSt} (h : zKeC σ0 σ) : zpc (fX5_lastQuarter_130 σ) (fun r => zKeC σ0 (r.1)) := by
  unfold fX5_lastQuarter_130
  exact zpc_some h
theorem w_fX5_lastQuarter_96 {σ0 : zSt} {σ : zSt} {s0 : Int32} (h : zKeC σ0 σ) : zpc (fX5_lastQuarter_96 σ s0) (fun r => zKeC σ0 (r.1)) := by
  unfold fX5_lastQuarter_96
  exact zpc_some h
theorem w_fX5_lastQuarter {σ0 : zSt} {σ : zSt} {x1 : Int32} (h : zKeC σ0 σ) : zpc (fX5_lastQuarter σ x1) (fun r => zKeC σ0 (r.1)) := by
  unfold fX5_lastQuarter
  exact zpc_bv (fun v4 _ => zpc_if (fun _ => zpc_bi (w_fX5_holds h) (fun σ5 v6 hσ5 => zpc_if (fun _ => zpc_some hσ5) (fun _ => zpc_bi (w_fX5_pop hσ5) (fun σ7 v8 hσ7 => zpc_bu (w_fX5_goTo hσ7) (fun σ9 hσ9 => zpc_some hσ9))))) (fun _ => zpc_if (fun _ => zpc_if (fun _ => zpc_bi (w_fX5_popPair h) (fun σ12 v13 hσ12 => w_fX5_lastQuarter_96 hσ12)) (fun _ => zpc_bi (w_fX5_leave h) (fun σ10 v11 hσ10 => w_fX5_lastQuarter_96 hσ10))) (fun _ => zpc_if (fun _ => zpc_bi (w_fX5_fetchWord h) (fun σ14 v15 hσ14 => zpc_ck (zpc_bs (zKeC.wi hσ14 (by decide)) (fun σ16 hσ16 => zpc_bi (w_fX5_holds hσ16) (fun σ17 v18 hσ17 => zpc_if (fun _ => w_fX5_lastQuarter_130 hσ17) (fun _ => zpc_ck (zpc_ck (zpc_bs (zKeC.wi hσ17 (by decide)) (fun σ19 hσ19 => w_fX5_lastQuarter_130 hσ19))))))))) (fun _ => zpc_if (fun _ => w_fX5_lastQuarter_196 h) (fun _ => zpc_if (fun _ => zpc_bi (w_fX5_holds h) (fun σ20 v21 hσ20 => zpc_bi (w_fX5_callIf hσ20) (fun σ22 v23 hσ22 => zpc_some hσ22))) (fun _ => zpc_if (fun _ => zpc_if (fun _ => zpc_bi (w_fX5_callIf h) (fun σ28 v29 hσ28 => zpc_some hσ28)) (fun _ => zpc_if (fun _ => zpc_bi (w_fX5_pairAt h) (fun σ26 v27 hσ26 => w_fX5_lastQuarter_178 hσ26)) (fun _ => zpc_bi (w_fX5_pair h) (fun σ24 v25 hσ24 => w_fX5_lastQuarter_178 hσ24)))) (fun _ => zpc_if (fun _ => zpc_bi (w_fX5_fetch h) (fun σ30 v31 hσ30 => zpc_bu (w_fX5_doWith hσ30) (fun σ32 hσ32 => zpc_some hσ32))) (fun _ => w_fX5_lastQuarter_196 h))))))))
theorem w_fX5_doWithRegister_33 {σ0 : zSt} {σ : zSt} {s0 : Int32} (h : zKeC σ0 σ) : zpc (fX5_doWithRegister_33 σ s0) (fun r => zKeC σ0 (r.1)) := by
  unfold fX5_doWithRegister_33
  exact zpc_some h
theorem w_fX5_doWithRegister {σ0 : zSt} {σ : zSt} {x1 : Int32} (h : zKeC σ0 σ) : zpc (fX5_doWithRegister σ x1) (fun r => zKeC σ0 (r.1)) := by
  unfold fX5_doWithRegister
  exact zpc_bi (w_fX5_one h) (fun σ1 v2 hσ1 => zpc_bu (w_fX5_doWith hσ1) (fun σ3 hσ3 => zpc_if (fun _ => w_fX5_doWithRegister_33 hσ3) (fun _ => w_fX5_doWithRegister_33 hσ3)))
theorem w_fX5_move_56 {σ0 : zSt} {σ : zSt} {s0 : Int32} (h : zKeC σ0 σ) : zpc (fX5_move_56 σ s0) (fun r => zKeC σ0 (r.1)) := by
  unfold fX5_move_56
  exact zpc_some h
theorem w_fX5_move_50 {σ0 : zSt} {σ : zSt} (h : zKeC σ0 σ) : zpc (fX5_move_50 σ) (fun r => zKeC σ0 (r.1)) := by
  unfold fX5_move_50
  exact w_fX5_move_56 h
theorem w_fX5_move {σ0 : zSt} {σ : zSt} {x1 : Int32} (h : zKeC σ0 σ) : zpc (fX5_move σ x1) (fun r => zKeC σ0 (r.1)) := by
  unfold fX5_move
  exact zpc_if (fun _ => zpc_ck (zpc_bs (zKeC.wi h (by decide)) (fun σ6 hσ6 => zpc_some hσ6))) (fun _ => zpc_bv (fun v1 _ => zpc_bv (fun v2 _ => zpc_bi (w_fX5_one h) (fun σ3 v4 hσ3 => zpc_bu (w_fX5_putOne hσ3) (fun σ5 hσ5 => zpc_if (fun _ => w_fX5_move_50 hσ5) (fun _ => zpc_if (fun _ => w_fX5_move_50 hσ5) (fun _ => w_fX5_move_56 hσ5)))))))
theorem w_fX5_adjustA_202 {σ0 : zSt} {σ : zSt} {x4 : Int32} {s0 : Int32} {s1 : Int32} {s2 : Int32} (h : zKeC σ0 σ) : zpc (fX5_adjustA_202 σ x4 s0 s1 s2) (fun r => zKeC σ0 (r)) := by
  unfold fX5_adjustA_202
  exact zpc_ck (zpc_ck (zpc_bs (zKeC.wi h (by decide)) (fun σ1 hσ1 => zpc_some hσ1)))
theorem w_fX5_adjustA_161 {σ0 : zSt} {σ : zSt} {x4 : Int32} {x6 : Int32} {s0 : Int32} (h : zKeC σ0 σ) : zpc (fX5_adjustA_161 σ x4 x6 s0) (fun r => zKeC σ0 (r)) := by
  unfold fX5_adjustA_161
  exact zpc_bv (fun v2 _ => zpc_ck (zpc_bs (zKeC.wi h (by decide)) (fun σ3 hσ3 => zpc_bi (w_fX5_by hσ3) (fun σ4 v5 hσ4 => zpc_bi (w_fX5_parity hσ4) (fun σ6 v7 hσ6 => zpc_if (fun _ => w_fX5_adjustA_202 hσ6) (fun _ => w_fX5_adjustA_202 hσ6))))))
theorem w_fX5_adjustA_134 {σ0 : zSt} {σ : zSt} {x3 : Int32} {x4 : Int32} {x5 : Int32} {s0 : Int32} (h : zKeC σ0 σ) : zpc (fX5_adjustA_134 σ x3 x4 x5 s0) (fun r => zKeC σ0 (r)) := by
  unfold fX5_adjustA_134
  exact zpc_if (fun _ => zpc_ck (w_fX5_adjustA_161 h)) (fun _ => zpc_ck (w_fX5_adjustA_161 h))
theorem w_fX5_adjustA_119 {σ0 : zSt} {σ : zSt} {x3 : Int32} {x4 : Int32} {x5 : Int32} (h : zKeC σ0 σ) : zpc (fX5_adjustA_119 σ x3 x4 x5) (fun r => zKeC σ0 (r)) := by
  unfold fX5_adjustA_119
  exact w_fX5_adjustA_134 h
theorem w_fX5_adjustA_98 {σ0 : zSt} {σ : zSt} {x1 : Int32} {x2 : Int32} {x3 : Int32} {x4 : Int32} {s0 : Int32} {s1 : Int32} (h : zKeC σ0 σ) : zpc (fX5_adjustA_98 σ x1 x2 x3 x4 s0 s1) (fun r => zKeC σ0 (r)) := by
  unfold fX5_adjustA_98
  exact zpc_bv (fun v8 _ => zpc_if (fun _ => zpc_if (fun _ => w_fX5_adjustA_134 h) (fun _ => w_fX5_adjustA_134 h)) (fun _ => zpc_if (fun _ => w_fX5_adjustA_119 h) (fun _ => zpc_if (fun _ => w_fX5_adjustA_119 h) (fun _ => w_fX5_adjustA_134 h))))
theorem w_fX5_adjustA_87 {σ0 : zSt} {σ : zSt} {x1 : Int32} {x2 : Int32} {x3 : Int32} {x4 : Int32} {s0 : Int32} (h : zKeC σ0 σ) : zpc (fX5_adjustA_87 σ x1 x2 x3 x4 s0) (fun r => zKeC σ0 (r)) := by
  unfold fX5_adjustA_87
  exact zpc_if (fun _ => w_fX5_adjustA_98 h) (fun _ => w_fX5_adjustA_98 h)
theorem w_fX5_adjustA_81 {σ0 : zSt} {σ : zSt} {x1 : Int32} {x2 : Int32} {x3 : Int32} {x4 : Int32} (h : zKeC σ0 σ) : zpc (fX5_adjustA_81 σ x1 x2 x3 x4) (fun r => zKeC σ0 (r)) := by
  unfold fX5_adjustA_81
  exact w_fX5_adjustA_87 h
theorem w_fX5_adjustA_69 {σ0 : zSt} {σ : zSt} {x1 : Int32} {x2 : Int32} {x3 : Int32} {s0 : Int32} (h : zKeC σ0 σ) : zpc (fX5_adjustA_69 σ x1 x2 x3 s0) (fun r => zKeC σ0 (r)) := by
  unfold fX5_adjustA_69
  exact zpc_if (fun _ => w_fX5_adjustA_81 h) (fun _ => zpc_if (fun _ => w_fX5_adjustA_87 h) (fun _ => w_fX5_adjustA_81 h))
theorem w_fX5_adjustA_44 {σ0 : zSt} {σ : zSt} {x1 : Int32} {x2 : Int32} {s0 : Int32} (h : zKeC σ0 σ) : zpc (fX5_adjustA_44 σ x1 x2 s0) (fun r => zKeC σ0 (r)) := by
  unfold fX5_adjustA_44
  exact zpc_ck (zpc_if (fun _ => zpc_ck (w_fX5_adjustA_69 h)) (fun _ => w_fX5_adjustA_69 h))
theorem w_fX5_adjustA_27 {σ0 : zSt} {σ : zSt} {x1 : Int32} {s0 : Int32} (h : zKeC σ0 σ) : zpc (fX5_adjustA_27 σ x1 s0) (fun r => zKeC σ0 (r)) := by
  unfold fX5_adjustA_27
  exact zpc_ck (zpc_if (fun _ => w_fX5_adjustA_44 h) (fun _ => w_fX5_adjustA_44 h))
theorem w_fX5_adjustA {σ0 : zSt} {σ : zSt} (h : zKeC σ0 σ) : zpc (fX5_adjustA σ) (fun r => zKeC σ0 (r)) := by
  unfold fX5_adjustA
  exact zpc_ck (zpc_bv (fun v9 _ => zpc_ck (zpc_if (fun _ => w_fX5_adjustA_27 h) (fun _ => w_fX5_adjustA_27 h))))
theorem w_fX5_changeA_130 {σ0 : zSt} {σ : zSt} {s0 : Int32} {s1 : Int32} {s2 : Int32} (h : zKeC σ0 σ) : zpc (fX5_changeA_130 σ s0 s1 s2) (fun r => zKeC σ0 (r)) := by
  unfold fX5_changeA_130
  exact zpc_ck (zpc_ck (zpc_bs (zKeC.wi h (by decide)) (fun σ1 hσ1 => zpc_some hσ1)))
theorem w_fX5_changeA {σ0 : zSt} {σ : zSt} {x1 : Int32} (h : zKeC σ0 σ) : zpc (fX5_changeA σ x1) (fun r => zKeC σ0 (r)) := by
  unfold fX5_changeA
  exact zpc_ck (zpc_bv (fun v2 _ => zpc_ck (zpc_bv (fun v3 _ => zpc_if (fun _ => zpc_bu (w_fX5_adjustA h) (fun σ4 hσ4 => zpc_some hσ4)) (fun _ => zpc_if (fun _ => zpc_ck (zpc_ck (zpc_bs (zKeC.wi h (by decide)) (fun σ5 hσ5 => zpc_ck (zpc_ck (zpc_bs (zKeC.wi hσ5 (by decide)) (fun σ6 hσ6 => zpc_some hσ6))))))) (fun _ => zpc_if (fun _ => zpc_ck (zpc_ck (zpc_bs (zKeC.wi h (by decide)) (fun σ7 hσ7 => zpc_some hσ7)))) (fun _ => zpc_if (fun _ => zpc_if (fun _ => w_fX5_changeA_130 h) (fun _ => w_fX5_changeA_130 h)) (fun _ => zpc_ck (zpc_bi (w_fX5_turn h) (fun σ8 v9 hσ8 => zpc_ck (zpc_bs (zKeC.wi hσ8 (by decide)) (fun σ10 hσ10 => zpc_ck (zpc_ck (zpc_bs (zKeC.wi hσ10 (by decide)) (fun σ11 hσ11 => zpc_some hσ11)))))))))))))))
theorem w_fX5_oneLess_53 {σ0 : zSt} {σ : zSt} {x2 : Int32} {s0 : Int32} {s1 : Int32} {s2 : Int32} (h : zKeC σ0 σ) : zpc (fX5_oneLess_53 σ x2 s0 s1 s2) (fun r => zKeC σ0 (r.1)) := by
  unfold fX5_oneLess_53
  exact zpc_ck (zpc_bs (zKeC.wi h (by decide)) (fun σ1 hσ1 => zpc_some hσ1))
theorem w_fX5_oneLess_41 {σ0 : zSt} {σ : zSt} {x2 : Int32} {s0 : Int32} {s1 : Int32} {s2 : Int32} (h : zKeC σ0 σ) : zpc (fX5_oneLess_41 σ x2 s0 s1 s2) (fun r => zKeC σ0 (r.1)) := by
  unfold fX5_oneLess_41
  exact zpc_if (fun _ => w_fX5_oneLess_53 h) (fun _ => w_fX5_oneLess_53 h)
theorem w_fX5_oneLess {σ0 : zSt} {σ : zSt} {x1 : Int32} (h : zKeC σ0 σ) : zpc (fX5_oneLess σ x1) (fun r => zKeC σ0 (r.1)) := by
  unfold fX5_oneLess
  exact zpc_bv (fun v2 _ => zpc_ck (zpc_bi (w_fX5_by h) (fun σ3 v4 hσ3 => zpc_if (fun _ => w_fX5_oneLess_41 hσ3) (fun _ => w_fX5_oneLess_41 hσ3))))
theorem w_fX5_oneMore_52 {σ0 : zSt} {σ : zSt} {x2 : Int32} {s0 : Int32} {s1 : Int32} {s2 : Int32} (h : zKeC σ0 σ) : zpc (fX5_oneMore_52 σ x2 s0 s1 s2) (fun r => zKeC σ0 (r.1)) := by
  unfold fX5_oneMore_52
  exact zpc_ck (zpc_bs (zKeC.wi h (by decide)) (fun σ1 hσ1 => zpc_some hσ1))
theorem w_fX5_oneMore_39 {σ0 : zSt} {σ : zSt} {x2 : Int32} {s0 : Int32} {s1 : Int32} {s2 : Int32} (h : zKeC σ0 σ) : zpc (fX5_oneMore_39 σ x2 s0 s1 s2) (fun r => zKeC σ0 (r.1)) := by
  unfold fX5_oneMore_39
  exact zpc_if (fun _ => w_fX5_oneMore_52 h) (fun _ => w_fX5_oneMore_52 h)
theorem w_fX5_oneMore {σ0 : zSt} {σ : zSt} {x1 : Int32} (h : zKeC σ0 σ) : zpc (fX5_oneMore σ x1) (fun r => zKeC σ0 (r.1)) := by
  unfold fX5_oneMore
  exact zpc_bv (fun v2 _ => zpc_ck (zpc_bi (w_fX5_by h) (fun σ3 v4 hσ3 => zpc_if (fun _ => w_fX5_oneMore_39 hσ3) (fun _ => w_fX5_oneMore_39 hσ3))))
theorem w_fX5_far_78 {σ0 : zSt} {σ : zSt} (h : zKeC σ0 σ) : zpc (fX5_far_78 σ) (fun r => zKeC σ0 (r.1)) := by
  unfold fX5_far_78
  exact zpc_some h
theorem w_fX5_far_152 {σ0 : zSt} {σ : zSt} {s0 : Int32} (h : zKeC σ0 σ) : zpc (fX5_far_152 σ s0) (fun r => zKeC σ0 (r.1)) := by
  unfold fX5_far_152
  exact zpc_some h
theorem w_fX5_far_140 {σ0 : zSt} {σ : zSt} {x1 : Int32} (h : zKeC σ0 σ) : zpc (fX5_far_140 σ x1) (fun r => zKeC σ0 (r.1)) := by
  unfold fX5_far_140
  exact zpc_if (fun _ => w_fX5_far_152 h) (fun _ => w_fX5_far_152 h)
theorem w_fX5_far_32 {σ0 : zSt} {σ : zSt} {x1 : Int32} {x2 : Int32} {s0 : Int32} (h : zKeC σ0 σ) : zpc (fX5_far_32 σ x1 x2 s0) (fun r => zKeC σ0 (r.1)) := by
  unfold fX5_far_32
  exact zpc_ck (zpc_bs (zKeC.wi h (by decide)) (fun σ1 hσ1 => zpc_if (fun _ => zpc_if (fun _ => zpc_bi (w_fX5_hl hσ1) (fun σ7 v8 hσ7 => zpc_bu (w_fX5_writeWord hσ7) (fun σ9 hσ9 => w_fX5_far_78 hσ9))) (fun _ => zpc_bi (w_fX5_readWord hσ1) (fun σ10 v11 hσ10 => zpc_bu (w_fX5_putHl hσ10) (fun σ12 hσ12 => w_fX5_far_78 hσ12)))) (fun _ => zpc_if (fun _ => zpc_ck (zpc_bu (w_fX2_write hσ1) (fun σ2 hσ2 => zpc_ck (zpc_ck (zpc_bs (zKeC.wi hσ2 (by decide)) (fun σ3 hσ3 => w_fX5_far_140 hσ3)))))) (fun _ => zpc_bi (w_fX2_read hσ1) (fun σ4 v5 hσ4 => zpc_ck (zpc_bs (zKeC.wi hσ4 (by decide)) (fun σ6 hσ6 => w_fX5_far_140 hσ6)))))))
theorem w_fX5_far_12 {σ0 : zSt} {σ : zSt} {x1 : Int32} {s0 : Int32} (h : zKeC σ0 σ) : zpc (fX5_far_12 σ x1 s0) (fun r => zKeC σ0 (r.1)) := by
  unfold fX5_far_12
  exact zpc_if (fun _ => zpc_bi (w_fX5_fetchWord h) (fun σ13 v14 hσ13 => w_fX5_far_32 hσ13)) (fun _ => zpc_bi (w_fX5_pair h) (fun σ15 v16 hσ15 => w_fX5_far_32 hσ15))
theorem w_fX5_far {σ0 : zSt} {σ : zSt} {x1 : Int32} (h : zKeC σ0 σ) : zpc (fX5_far σ x1) (fun r => zKeC σ0 (r.1)) := by
  unfold fX5_far
  exact zpc_if (fun _ => w_fX5_far_12 h) (fun _ => w_fX5_far_12 h)
theorem w_fX5_loadPair {σ0 : zSt} {σ : zSt} {x1 : Int32} (h : zKeC σ0 σ) : zpc (fX5_loadPair σ x1) (fun r => zKeC σ0 (r.1)) := by
  unfold fX5_loadPair
  exact zpc_bi (w_fX5_fetchWord h) (fun σ1 v2 hσ1 => zpc_bu (w_fX5_putPair hσ1) (fun σ3 hσ3 => zpc_some hσ3))
theorem w_fX5_addPair {σ0 : zSt} {σ : zSt} {x1 : Int32} (h : zKeC σ0 σ) : zpc (fX5_addPair σ x1) (fun r => zKeC σ0 (r.1)) := by
  unfold fX5_addPair
  exact zpc_bi (w_fX5_hl h) (fun σ1 v2 hσ1 => zpc_bi (w_fX5_pair hσ1) (fun σ3 v4 hσ3 => zpc_bv (fun v5 _ => zpc_ck (zpc_bs (zKeC.wi hσ3 (by decide)) (fun σ6 hσ6 => zpc_bu (w_fX5_putHl hσ6) (fun σ7 hσ7 => zpc_ck (zpc_ck (zpc_bs (zKeC.wi hσ7 (by decide)) (fun σ8 hσ8 => zpc_some hσ8)))))))))
theorem w_fX5_near_20 {σ0 : zSt} {σ : zSt} (h : zKeC σ0 σ) : zpc (fX5_near_20 σ) (fun r => zKeC σ0 (r.1)) := by
  unfold fX5_near_20
  exact zpc_some h
theorem w_fX5_near_133 {σ0 : zSt} {σ : zSt} {s0 : Int32} {s1 : Int32} (h : zKeC σ0 σ) : zpc (fX5_near_133 σ s0 s1) (fun r => zKeC σ0 (r.1)) := by
  unfold fX5_near_133
  exact zpc_some h
theorem w_fX5_near_123 {σ0 : zSt} {σ : zSt} {x1 : Int32} {s0 : Int32} (h : zKeC σ0 σ) : zpc (fX5_near_123 σ x1 s0) (fun r => zKeC σ0 (r.1)) := by
  unfold fX5_near_123
  exact zpc_if (fun _ => w_fX5_near_133 h) (fun _ => w_fX5_near_133 h)
theorem w_fX5_near_112 {σ0 : zSt} {σ : zSt} {x1 : Int32} {x3 : Int32} (h : zKeC σ0 σ) : zpc (fX5_near_112 σ x1 x3) (fun r => zKeC σ0 (r.1)) := by
  unfold fX5_near_112
  exact zpc_if (fun _ => w_fX5_near_123 h) (fun _ => w_fX5_near_123 h)
theorem w_fX5_near_92 {σ0 : zSt} {σ : zSt} {x1 : Int32} {x2 : Int32} {x3 : Int32} (h : zKeC σ0 σ) : zpc (fX5_near_92 σ x1 x2 x3) (fun r => zKeC σ0 (r.1)) := by
  unfold fX5_near_92
  exact zpc_if (fun _ => w_fX5_near_112 h) (fun _ => zpc_ck (zpc_bu (w_fX5_goTo h) (fun σ1 hσ1 => w_fX5_near_112 hσ1)))
theorem w_fX5_near_91 {σ0 : zSt} {σ : zSt} {x1 : Int32} {x2 : Int32} {s0 : Int32} (h : zKeC σ0 σ) : zpc (fX5_near_91 σ x1 x2 s0) (fun r => zKeC σ0 (r.1)) := by
  unfold fX5_near_91
  exact w_fX5_near_92 h
theorem w_fX5_near_53 {σ0 : zSt} {σ : zSt} {x1 : Int32} {x2 : Int32} {s0 : Int32} (h : zKeC σ0 σ) : zpc (fX5_near_53 σ x1 x2 s0) (fun r => zKeC σ0 (r.1)) := by
  unfold fX5_near_53
  exact zpc_if (fun _ => zpc_ck (zpc_ck (zpc_bs (zKeC.wi h (by decide)) (fun σ2 hσ2 => zpc_ck (zpc_if (fun _ => w_fX5_near_91 hσ2) (fun _ => w_fX5_near_91 hσ2)))))) (fun _ => w_fX5_near_92 h)
theorem w_fX5_near_48 {σ0 : zSt} {σ : zSt} {x1 : Int32} {x2 : Int32} (h : zKeC σ0 σ) : zpc (fX5_near_48 σ x1 x2) (fun r => zKeC σ0 (r.1)) := by
  unfold fX5_near_48
  exact w_fX5_near_53 h
theorem w_fX5_near_52 {σ0 : zSt} {σ : zSt} {x1 : Int32} {x2 : Int32} (h : zKeC σ0 σ) : zpc (fX5_near_52 σ x1 x2) (fun r => zKeC σ0 (r.1)) := by
  unfold fX5_near_52
  exact w_fX5_near_53 h
theorem w_fX5_near {σ0 : zSt} {σ : zSt} {x1 : Int32} (h : zKeC σ0 σ) : zpc (fX5_near σ x1) (fun r => zKeC σ0 (r.1)) := by
  unfold fX5_near
  exact zpc_if (fun _ => zpc_bi (w_fX5_fetch h) (fun σ3 v4 hσ3 => zpc_bv (fun v5 _ => zpc_if (fun _ => w_fX5_near_48 hσ3) (fun _ => zpc_if (fun _ => w_fX5_near_52 hσ3) (fun _ => zpc_bi (w_fX5_holds hσ3) (fun σ6 v7 hσ6 => zpc_if (fun _ => w_fX5_near_52 hσ6) (fun _ => w_fX5_near_48 hσ6))))))) (fun _ => zpc_if (fun _ => zpc_bu (w_fX5_changeWithOther h) (fun σ8 hσ8 => zpc_bu (w_fX5_changeWithOther hσ8) (fun σ9 hσ9 => w_fX5_near_20 hσ9))) (fun _ => w_fX5_near_20 h))
theorem w_fX5_firstQuarter_193 {σ0 : zSt} {σ : zSt} {s0 : Int32} (h : zKeC σ0 σ) : zpc (fX5_firstQuarter_193 σ s0) (fun r => zKeC σ0 (r.1)) := by
  unfold fX5_firstQuarter_193
  exact zpc_some h
theorem w_fX5_firstQuarter_170 {σ0 : zSt} {σ : zSt} {s0 : Int32} (h : zKeC σ0 σ) : zpc (fX5_firstQuarter_170 σ s0) (fun r => zKeC σ0 (r.1)) := by
  unfold fX5_firstQuarter_170
  exact zpc_some h
theorem w_fX5_firstQuarter_143 {σ0 : zSt} {σ : zSt} {s0 : Int32} (h : zKeC σ0 σ) : zpc (fX5_firstQuarter_143 σ s0) (fun r => zKeC σ0 (r.1)) := by
  unfold fX5_firstQuarter_143
  exact zpc_some h
theorem w_fX5_firstQuarter_110 {σ0 : zSt} {σ : zSt} {s0 : Int32} {s1 : Int32} {s2 : Int32} (h : zKeC σ0 σ) : zpc (fX5_firstQuarter_110 σ s0 s1 s2) (fun r => zKeC σ0 (r.1)) := by
  unfold fX5_firstQuarter_110
  exact zpc_bu (w_fX5_putPair h) (fun σ1 hσ1 => zpc_some hσ1)
theorem w_fX5_firstQuarter_81 {σ0 : zSt} {σ : zSt} {s0 : Int32} (h : zKeC σ0 σ) : zpc (fX5_firstQuarter_81 σ s0) (fun r => zKeC σ0 (r.1)) := by
  unfold fX5_firstQuarter_81
  exact zpc_some h
theorem w_fX5_firstQuarter {σ0 : zSt} {σ : zSt} {x1 : Int32} (h : zKeC σ0 σ) : zpc (fX5_firstQuarter σ x1) (fun r => zKeC σ0 (r.1)) := by
  unfold fX5_firstQuarter
  exact zpc_bv (fun v2 _ => zpc_if (fun _ => zpc_bi (w_fX5_near h) (fun σ3 v4 hσ3 => zpc_some hσ3)) (fun _ => zpc_if (fun _ => zpc_if (fun _ => zpc_bi (w_fX5_loadPair h) (fun σ7 v8 hσ7 => w_fX5_firstQuarter_81 hσ7)) (fun _ => zpc_bi (w_fX5_addPair h) (fun σ5 v6 hσ5 => w_fX5_firstQuarter_81 hσ5))) (fun _ => zpc_if (fun _ => zpc_bi (w_fX5_far h) (fun σ9 v10 hσ9 => zpc_some hσ9)) (fun _ => zpc_if (fun _ => zpc_bi (w_fX5_pair h) (fun σ11 v12 hσ11 => zpc_if (fun _ => w_fX5_firstQuarter_110 hσ11) (fun _ => w_fX5_firstQuarter_110 hσ11))) (fun _ => zpc_if (fun _ => zpc_bi (w_fX5_one h) (fun σ13 v14 hσ13 => zpc_bi (w_fX5_oneMore hσ13) (fun σ15 v16 hσ15 => zpc_bu (w_fX5_putOne hσ15) (fun σ17 hσ17 => zpc_if (fun _ => w_fX5_firstQuarter_143 hσ17) (fun _ => w_fX5_firstQuarter_143 hσ17))))) (fun _ => zpc_if (fun _ => zpc_bi (w_fX5_one h) (fun σ18 v19 hσ18 => zpc_bi (w_fX5_oneLess hσ18) (fun σ20 v21 hσ20 => zpc_bu (w_fX5_putOne hσ20) (fun σ22 hσ22 => zpc_if (fun _ => w_fX5_firstQuarter_170 hσ22) (fun _ => w_fX5_firstQuarter_170 hσ22))))) (fun _ => zpc_if (fun _ => zpc_bi (w_fX5_fetch h) (fun σ23 v24 hσ23 => zpc_bu (w_fX5_putOne hσ23) (fun σ25 hσ25 => zpc_if (fun _ => w_fX5_firstQuarter_193 hσ25) (fun _ => w_fX5_firstQuarter_193 hσ25)))) (fun _ => zpc_bu (w_fX5_changeA h) (fun σ26 hσ26 => zpc_some hσ26)))))))))
theorem w_fX5_carryOn_90 {σ0 : zSt} {σ : zSt} (h : zKeC σ0 σ) : zpc (fX5_carryOn_90 σ) (fun r => zKeC σ0 (r.1)) := by
  unfold fX5_carryOn_90
  exact zpc_ck (zpc_bs (zKeC.wi h (by decide)) (fun σ1 hσ1 => zpc_some hσ1))
theorem w_fX5_carryOn_193 {σ0 : zSt} {σ : zSt} {s0 : Int32} (h : zKeC σ0 σ) : zpc (fX5_carryOn_193 σ s0) (fun r => zKeC σ0 (r.1)) := by
  unfold fX5_carryOn_193
  exact zpc_some h
theorem w_fX5_carryOn_275 {σ0 : zSt} {σ : zSt} {s0 : Int32} {s1 : Int32} (h : zKeC σ0 σ) : zpc (fX5_carryOn_275 σ s0 s1) (fun r => zKeC σ0 (r.1)) := by
  unfold fX5_carryOn_275
  exact zpc_some h
theorem w_fX5_carryOn_141 {σ0 : zSt} {σ : zSt} {x1 : Int32} {x2 : Int32} (h : zKeC σ0 σ) : zpc (fX5_carryOn_141 σ x1 x2) (fun r => zKeC σ0 (r.1)) := by
  unfold fX5_carryOn_141
  exact zpc_if (fun _ => zpc_bi (w_fX5_fetchOp h) (fun σ18 v19 hσ18 => zpc_bi (w_fX5_turns hσ18) (fun σ20 v21 hσ20 => zpc_some hσ20))) (fun _ => zpc_if (fun _ => zpc_bi (w_fX5_fetchOp h) (fun σ12 v13 hσ12 => zpc_if (fun _ => zpc_bi (w_fX5_block hσ12) (fun σ16 v17 hσ16 => w_fX5_carryOn_193 hσ16)) (fun _ => zpc_bi (w_fX5_behindEd hσ12) (fun σ14 v15 hσ14 => w_fX5_carryOn_193 hσ14)))) (fun _ => zpc_if (fun _ => zpc_bi (w_fX5_firstQuarter h) (fun σ2 v3 hσ2 => zpc_some hσ2)) (fun _ => zpc_if (fun _ => zpc_bi (w_fX5_move h) (fun σ4 v5 hσ4 => zpc_some hσ4)) (fun _ => zpc_if (fun _ => zpc_bi (w_fX5_doWithRegister h) (fun σ6 v7 hσ6 => zpc_some hσ6)) (fun _ => zpc_if (fun _ => zpc_bi (w_fX5_exchange h) (fun σ10 v11 hσ10 => w_fX5_carryOn_275 hσ10)) (fun _ => zpc_bi (w_fX5_lastQuarter h) (fun σ8 v9 hσ8 => w_fX5_carryOn_275 hσ8)))))))
theorem w_fX5_carryOn_115 {σ0 : zSt} {σ : zSt} {s0 : Int32} (h : zKeC σ0 σ) : zpc (fX5_carryOn_115 σ s0) (fun r => zKeC σ0 (r.1)) := by
  unfold fX5_carryOn_115
  exact zpc_bs (zKeC.wi h (by decide)) (fun σ22 hσ22 => zpc_bi (w_fX5_fetchOp hσ22) (fun σ23 v24 hσ23 => zpc_if (fun _ => zpc_bi (w_fX5_turnBeside hσ23) (fun σ27 v28 hσ27 => zpc_some hσ27)) (fun _ => zpc_bi (w_fX5_takePlace hσ23) (fun σ25 v26 hσ25 => w_fX5_carryOn_141 hσ25))))
theorem w_fX5_carryOn_54 {σ0 : zSt} {σ : zSt} {x1 : Int32} (h : zKeC σ0 σ) : zpc (fX5_carryOn_54 σ x1) (fun r => zKeC σ0 (r.1)) := by
  unfold fX5_carryOn_54
  exact zpc_ck (zpc_bi (w_fX2_read h) (fun σ29 v30 hσ29 => zpc_if (fun _ => w_fX5_carryOn_90 hσ29) (fun _ => zpc_if (fun _ => w_fX5_carryOn_90 hσ29) (fun _ => zpc_if (fun _ => w_fX5_carryOn_90 hσ29) (fun _ => zpc_if (fun _ => w_fX5_carryOn_115 hσ29) (fun _ => w_fX5_carryOn_115 hσ29))))))
theorem w_fX5_carryOn {σ0 : zSt} {σ : zSt} (h : zKeC σ0 σ) : zpc (fX5_carryOn σ) (fun r => zKeC σ0 (r.1)) := by
  unfold fX5_carryOn
  exact zpc_ck (zpc_if (fun _ => zpc_bu (w_fX5_growR h) (fun σ37 hσ37 => zpc_some hσ37)) (fun _ => zpc_bs (zKeC.wi h (by decide)) (fun σ31 hσ31 => zpc_bi (w_fX5_pairAt hσ31) (fun σ32 v33 hσ32 => zpc_bs (zKeC.wi hσ32 (by decide)) (fun σ34 hσ34 => zpc_bi (w_fX5_fetchOp hσ34) (fun σ35 v36 hσ35 => zpc_if (fun _ => w_fX5_carryOn_54 hσ35) (fun _ => zpc_if (fun _ => w_fX5_carryOn_54 hσ35) (fun _ => w_fX5_carryOn_141 hσ35))))))))
theorem w_fX6_size_k11 {σ0 : zSt} {σ : zSt} (h : zKeC σ0 σ) : zpc (fX6_size_k11 σ) (fun r => zKeC σ0 (r.1)) := by
  unfold fX6_size_k11
  exact zpc_some h
theorem w_fX6_size_k12 {σ0 : zSt} {σ : zSt} (h : zKeC σ0 σ) : zpc (fX6_size_k12 σ) (fun r => zKeC σ0 (r.1)) := by
  unfold fX6_size_k12
  exact zpc_some h
theorem w_fX6_takeFirst_k11 {σ0 : zSt} {σ : zSt} (h : zKeC σ0 σ) : zpc (fX6_takeFirst_k11 σ) (fun r => zKeC σ0 (r.1)) := by
  unfold fX6_takeFirst_k11
  exact zpc_if (fun _ => zpc_some h) (fun _ => zpc_ck (zpc_bv (fun v1 _ => zpc_bs (zKeC.wi h (by decide)) (fun σ2 hσ2 => zpc_bs (zKeC.wi hσ2 (by decide)) (fun σ3 hσ3 => zpc_some hσ3)))))
theorem w_fX6_takeFirst_k12 {σ0 : zSt} {σ : zSt} (h : zKeC σ0 σ) : zpc (fX6_takeFirst_k12 σ) (fun r => zKeC σ0 (r.1)) := by
  unfold fX6_takeFirst_k12
  exact zpc_if (fun _ => zpc_some h) (fun _ => zpc_ck (zpc_bv (fun v1 _ => zpc_bs (zKeC.wi h (by decide)) (fun σ2 hσ2 => zpc_bs (zKeC.wi hσ2 (by decide)) (fun σ3 hσ3 => zpc_some hσ3)))))
theorem w_fJ7_fill_53178_k30_5_body {σ0 : zSt} {k5 : zSt → Int32 → Int32 → Int32 → Option (zSt)} (hk5 : ∀ (y0 : zSt) (y1 : Int32) (y2 : Int32) (y3 : Int32), zKeC σ0 y0 → zpc (k5 y0 y1 y2 y3) (fun r => zKeC σ0 (r))) {σ : zSt} {x1 : Int32} {x2 : Int32} {x3 : Int32} (h : zKeC σ0 σ) : zpc (fJ7_fill_53178_k30_5_body k5 σ x1 x2 x3) (fun r => zKeC σ0 (r)) := by
  unfold fJ7_fill_53178_k30_5_body
  exact zpc_if (fun _ => zpc_some h) (fun _ => zpc_ck (zpc_bs (zKeC.wi h (by decide)) (fun σ1 hσ1 => zpc_bv (fun v2 _ => hk5 _ _ _ _ hσ1))))
theorem w_fJ7_fill_53178_k30_5 {σ0 : zSt} : ∀ (n : Nat) (y0 : zSt) (y1 : Int32) (y2 : Int32) (y3 : Int32), zKeC σ0 y0 → zpc (fJ7_fill_53178_k30_5 n y0 y1 y2 y3) (fun r => zKeC σ0 (r)) := by
  intro n
  induction n with
  | zero => intro y0 y1 y2 y3 h; exact zpc_none
  | succ n ih => intro y0 y1 y2 y3 h; exact w_fJ7_fill_53178_k30_5_body ih h
theorem w_fJ7_fill_53178_k30 {σ0 : zSt} {σ : zSt} {x1 : Int32} (h : zKeC σ0 σ) : zpc (fJ7_fill_53178_k30 σ x1) (fun r => zKeC σ0 (r)) := by
  unfold fJ7_fill_53178_k30
  exact w_fJ7_fill_53178_k30_5 _ _ _ _ _ h
theorem w_fJ7_fill_fda19_k30_10_body {σ0 : zSt} {k10 : zSt → Int32 → Int32 → Int32 → Option (zSt)} (hk10 : ∀ (y0 : zSt) (y1 : Int32) (y2 : Int32) (y3 : Int32), zKeC σ0 y0 → zpc (k10 y0 y1 y2 y3) (fun r => zKeC σ0 (r))) {σ : zSt} {x2 : Int32} {x3 : Int32} {x4 : Int32} (h : zKeC σ0 σ) : zpc (fJ7_fill_fda19_k30_10_body k10 σ x2 x3 x4) (fun r => zKeC σ0 (r)) := by
  unfold fJ7_fill_fda19_k30_10_body
  exact zpc_if (fun _ => zpc_some h) (fun _ => zpc_ck (zpc_bs (zKeC.wi h (by decide)) (fun σ1 hσ1 => zpc_bv (fun v2 _ => hk10 _ _ _ _ hσ1))))
theorem w_fJ7_fill_fda19_k30_10 {σ0 : zSt} : ∀ (n : Nat) (y0 : zSt) (y1 : Int32) (y2 : Int32) (y3 : Int32), zKeC σ0 y0 → zpc (fJ7_fill_fda19_k30_10 n y0 y1 y2 y3) (fun r => zKeC σ0 (r)) := by
  intro n
  induction n with
  | zero => intro y0 y1 y2 y3 h; exact zpc_none
  | succ n ih => intro y0 y1 y2 y3 h; exact w_fJ7_fill_fda19_k30_10_body ih h
theorem w_fJ7_fill_fda19_k30 {σ0 : zSt} {σ : zSt} {x1 : Int32} {x2 : Int32} {x3 : Int32} (h : zKeC σ0 σ) : zpc (fJ7_fill_fda19_k30 σ x1 x2 x3) (fun r => zKeC σ0 (r)) := by
  unfold fJ7_fill_fda19_k30
  exact zpc_bu (w_fJ7_rangeCheck_23922 h) (fun σ3 hσ3 => w_fJ7_fill_fda19_k30_10 _ _ _ _ _ hσ3)
theorem w_fX7_clear {σ0 : zSt} {σ : zSt} (h : zKeC σ0 σ) : zpc (fX7_clear σ) (fun r => zKeC σ0 (r)) := by
  unfold fX7_clear
  exact zpc_bu (w_fJ7_fill_53178_k30 h) (fun σ1 hσ1 => zpc_bu (w_fJ7_fill_fda19_k30 hσ1) (fun σ2 hσ2 => zpc_ck (zpc_bs (zKeC.wi hσ2 (by decide)) (fun σ3 hσ3 => zpc_ck (zpc_bs (zKeC.wi hσ3 (by decide)) (fun σ4 hσ4 => zpc_some hσ4))))))
theorem w_fX7_keep {σ0 : zSt} {σ : zSt} (h : zKeC σ0 σ) : zpc (fX7_keep σ) (fun r => zKeC σ0 (r)) := by
  unfold fX7_keep
  exact zpc_ck (zpc_bs (zKeC.ci h (by decide)) (fun σ1 hσ1 => zpc_some hσ1))
theorem w_fX7_bringBack {σ0 : zSt} {σ : zSt} (h : zKeC σ0 σ) : zpc (fX7_bringBack σ) (fun r => zKeC σ0 (r)) := by
  unfold fX7_bringBack
  exact zpc_ck (zpc_bs (zKeC.ci h (by decide)) (fun σ1 hσ1 => zpc_some hσ1))
theorem w_fX7_value_20 {σ0 : zSt} {σ : zSt} {s0 : Int32} (h : zKeC σ0 σ) : zpc (fX7_value_20 σ s0) (fun r => zKeC σ0 (r.1)) := by
  unfold fX7_value_20
  exact zpc_some h
theorem w_fX7_value_19 {σ0 : zSt} {σ : zSt} (h : zKeC σ0 σ) : zpc (fX7_value_19 σ) (fun r => zKeC σ0 (r.1)) := by
  unfold fX7_value_19
  exact w_fX7_value_20 h
theorem w_fX7_value {σ0 : zSt} {σ : zSt} {x1 : Int32} (h : zKeC σ0 σ) : zpc (fX7_value σ x1) (fun r => zKeC σ0 (r.1)) := by
  unfold fX7_value
  exact zpc_if (fun _ => w_fX7_value_19 h) (fun _ => zpc_if (fun _ => w_fX7_value_19 h) (fun _ => zpc_ck (w_fX7_value_20 h)))
theorem w_fX8_take {σ0 : zSt} {σ : zSt} (h : zKeC σ0 σ) : zpc (fX8_take σ) (fun r => zKeC σ0 (r.1)) := by
  unfold fX8_take
  exact zpc_bi (w_fX2_read h) (fun σ1 v2 hσ1 => zpc_bs (zKeC.wi hσ1 (by decide)) (fun σ3 hσ3 => zpc_some hσ3))
theorem w_fX8_putSign_29 {σ0 : zSt} {σ : zSt} (h : zKeC σ0 σ) : zpc (fX8_putSign_29 σ) (fun r => zKeC σ0 (r)) := by
  unfold fX8_putSign_29
  exact zpc_some h
theorem w_fX8_putSign {σ0 : zSt} {σ : zSt} {x1 : Int32} (h : zKeC σ0 σ) : zpc (fX8_putSign σ x1) (fun r => zKeC σ0 (r)) := by
  unfold fX8_putSign
  exact zpc_if (fun _ => w_fX8_putSign_29 h) (fun _ => zpc_ck (zpc_bs (zKeC.wi h (by decide)) (fun σ1 hσ1 => zpc_bs (zKeC.wi hσ1 (by decide)) (fun σ2 hσ2 => w_fX8_putSign_29 hσ2))))
theorem w_fX8_putByte {σ0 : zSt} {σ : zSt} {x1 : Int32} (h : zKeC σ0 σ) : zpc (fX8_putByte σ x1) (fun r => zKeC σ0 (r)) := by
  unfold fX8_putByte
  exact zpc_ck (zpc_ck (zpc_bu (w_fX8_putSign h) (fun σ1 hσ1 => zpc_ck (zpc_ck (zpc_bu (w_fX8_putSign hσ1) (fun σ2 hσ2 => zpc_some hσ2))))))
theorem w_fX8_putWord {σ0 : zSt} {σ : zSt} {x1 : Int32} (h : zKeC σ0 σ) : zpc (fX8_putWord σ x1) (fun r => zKeC σ0 (r)) := by
  unfold fX8_putWord
  exact zpc_bu (w_fX8_putByte h) (fun σ1 hσ1 => zpc_bu (w_fX8_putByte hσ1) (fun σ2 hσ2 => zpc_some hσ2))
theorem w_fX8_putHl_35 {σ0 : zSt} {σ : zSt} {s0 : Int32} (h : zKeC σ0 σ) : zpc (fX8_putHl_35 σ s0) (fun r => zKeC σ0 (r)) := by
  unfold fX8_putHl_35
  exact zpc_bu (w_fX8_putSign h) (fun σ1 hσ1 => zpc_some hσ1)
theorem w_fX8_putHl_15 {σ0 : zSt} {σ : zSt} {s0 : Int32} (h : zKeC σ0 σ) : zpc (fX8_putHl_15 σ s0) (fun r => zKeC σ0 (r)) := by
  unfold fX8_putHl_15
  exact zpc_bu (w_fX8_putSign h) (fun σ2 hσ2 => zpc_if (fun _ => w_fX8_putHl_35 hσ2) (fun _ => w_fX8_putHl_35 hσ2))
theorem w_fX8_putHl {σ0 : zSt} {σ : zSt} (h : zKeC σ0 σ) : zpc (fX8_putHl σ) (fun r => zKeC σ0 (r)) := by
  unfold fX8_putHl
  exact zpc_if (fun _ => w_fX8_putHl_15 h) (fun _ => w_fX8_putHl_15 h)
theorem w_fX8_putPlace_45 {σ0 : zSt} {σ : zSt} {s0 : Int32} (h : zKeC σ0 σ) : zpc (fX8_putPlace_45 σ s0) (fun r => zKeC σ0 (r)) := by
  unfold fX8_putPlace_45
  exact zpc_bu (w_fX8_putByte h) (fun σ1 hσ1 => zpc_bu (w_fX8_putSign hσ1) (fun σ2 hσ2 => zpc_some hσ2))
theorem w_fX8_putPlace_25 {σ0 : zSt} {σ : zSt} {x1 : Int32} {s0 : Int32} (h : zKeC σ0 σ) : zpc (fX8_putPlace_25 σ x1 s0) (fun r => zKeC σ0 (r)) := by
  unfold fX8_putPlace_25
  exact zpc_bu (w_fX8_putSign h) (fun σ3 hσ3 => zpc_if (fun _ => w_fX8_putPlace_45 hσ3) (fun _ => w_fX8_putPlace_45 hσ3))
theorem w_fX8_putPlace {σ0 : zSt} {σ : zSt} {x1 : Int32} (h : zKeC σ0 σ) : zpc (fX8_putPlace σ x1) (fun r => zKeC σ0 (r)) := by
  unfold fX8_putPlace
  exact zpc_bu (w_fX8_putSign h) (fun σ4 hσ4 => zpc_bu (w_fX8_putHl hσ4) (fun σ5 hσ5 => zpc_if (fun _ => w_fX8_putPlace_25 hσ5) (fun _ => w_fX8_putPlace_25 hσ5)))
theorem w_fX8_putName_46 {σ0 : zSt} {k5 : zSt → Nat → Int32 → Int32 → Int32 → Option (zSt)} (hk5 : ∀ (y0 : zSt) (y1 : Nat) (y2 : Int32) (y3 : Int32) (y4 : Int32), zKeC σ0 y0 → zpc (k5 y0 y1 y2 y3 y4) (fun r => zKeC σ0 (r))) {σ : zSt} {n1 : Nat} {x2 : Int32} {x3 : Int32} {x4 : Int32} (h : zKeC σ0 σ) : zpc (fX8_putName_46 k5 σ n1 x2 x3 x4) (fun r => zKeC σ0 (r)) := by
  unfold fX8_putName_46
  exact zpc_bv (fun v1 _ => hk5 _ _ _ _ _ h)
theorem w_fX8_putName_5_body {σ0 : zSt} {k5 : zSt → Nat → Int32 → Int32 → Int32 → Option (zSt)} (hk5 : ∀ (y0 : zSt) (y1 : Nat) (y2 : Int32) (y3 : Int32) (y4 : Int32), zKeC σ0 y0 → zpc (k5 y0 y1 y2 y3 y4) (fun r => zKeC σ0 (r))) {σ : zSt} {n1 : Nat} {x2 : Int32} {x3 : Int32} {x4 : Int32} (h : zKeC σ0 σ) : zpc (fX8_putName_5_body k5 σ n1 x2 x3 x4) (fun r => zKeC σ0 (r)) := by
  unfold fX8_putName_5_body
  exact zpc_ck (zpc_if (fun _ => zpc_some h) (fun _ => zpc_ck (zpc_ck (zpc_if (fun _ => zpc_bv (fun v3 _ => w_fX8_putName_46 hk5 h)) (fun _ => zpc_if (fun _ => zpc_ck (zpc_ck (zpc_bu (w_fX8_putSign h) (fun σ2 hσ2 => w_fX8_putName_46 hk5 hσ2)))) (fun _ => w_fX8_putName_46 hk5 h))))))
theorem w_fX8_putName_5 {σ0 : zSt} : ∀ (n : Nat) (y0 : zSt) (y1 : Nat) (y2 : Int32) (y3 : Int32) (y4 : Int32), zKeC σ0 y0 → zpc (fX8_putName_5 n y0 y1 y2 y3 y4) (fun r => zKeC σ0 (r)) := by
  intro n
  induction n with
  | zero => intro y0 y1 y2 y3 y4 h; exact zpc_none
  | succ n ih => intro y0 y1 y2 y3 y4 h; exact w_fX8_putName_5_body ih h
theorem w_fX8_putName {σ0 : zSt} {σ : zSt} {n1 : Nat} {x2 : Int32} (h : zKeC σ0 σ) : zpc (fX8_putName σ n1 x2) (fun r => zKeC σ0 (r)) := by
  unfold fX8_putName
  exact w_fX8_putName_5 _ _ _ _ _ _ h
theorem w_fX8_putOne_78 {σ0 : zSt} {σ : zSt} (h : zKeC σ0 σ) : zpc (fX8_putOne_78 σ) (fun r => zKeC σ0 (r)) := by
  unfold fX8_putOne_78
  exact zpc_some h
theorem w_fX8_putOne_71 {σ0 : zSt} {σ : zSt} {x1 : Int32} (h : zKeC σ0 σ) : zpc (fX8_putOne_71 σ x1) (fun r => zKeC σ0 (r)) := by
  unfold fX8_putOne_71
  exact zpc_bu (w_fX8_putName h) (fun σ1 hσ1 => w_fX8_putOne_78 hσ1)
theorem w_fX8_putOne_65 {σ0 : zSt} {σ : zSt} {s0 : Int32} (h : zKeC σ0 σ) : zpc (fX8_putOne_65 σ s0) (fun r => zKeC σ0 (r)) := by
  unfold fX8_putOne_65
  exact zpc_bu (w_fX8_putSign h) (fun σ2 hσ2 => w_fX8_putOne_78 hσ2)
theorem w_fX8_putOne_34 {σ0 : zSt} {σ : zSt} {x1 : Int32} (h : zKeC σ0 σ) : zpc (fX8_putOne_34 σ x1) (fun r => zKeC σ0 (r)) := by
  unfold fX8_putOne_34
  exact zpc_if (fun _ => w_fX8_putOne_71 h) (fun _ => zpc_if (fun _ => zpc_bu (w_fX8_putHl h) (fun σ3 hσ3 => zpc_if (fun _ => w_fX8_putOne_65 hσ3) (fun _ => w_fX8_putOne_65 hσ3))) (fun _ => w_fX8_putOne_71 h))
theorem w_fX8_putOne_24 {σ0 : zSt} {σ : zSt} {x1 : Int32} (h : zKeC σ0 σ) : zpc (fX8_putOne_24 σ x1) (fun r => zKeC σ0 (r)) := by
  unfold fX8_putOne_24
  exact zpc_if (fun _ => w_fX8_putOne_34 h) (fun _ => zpc_if (fun _ => w_fX8_putOne_34 h) (fun _ => w_fX8_putOne_71 h))
theorem w_fX8_putOne {σ0 : zSt} {σ : zSt} {x1 : Int32} (h : zKeC σ0 σ) : zpc (fX8_putOne σ x1) (fun r => zKeC σ0 (r)) := by
  unfold fX8_putOne
  exact zpc_if (fun _ => zpc_if (fun _ => w_fX8_putOne_24 h) (fun _ => zpc_bi (w_fX8_take h) (fun σ4 v5 hσ4 => zpc_bu (w_fX8_putPlace hσ4) (fun σ6 hσ6 => w_fX8_putOne_78 hσ6)))) (fun _ => w_fX8_putOne_24 h)
theorem w_fX8_putTurned_59 {σ0 : zSt} {σ : zSt} (h : zKeC σ0 σ) : zpc (fX8_putTurned_59 σ) (fun r => zKeC σ0 (r)) := by
  unfold fX8_putTurned_59
  exact zpc_some h
theorem w_fX8_putTurned {σ0 : zSt} {σ : zSt} (h : zKeC σ0 σ) : zpc (fX8_putTurned σ) (fun r => zKeC σ0 (r)) := by
  unfold fX8_putTurned
  exact zpc_if (fun _ => zpc_bu (w_fX8_putName h) (fun σ4 hσ4 => zpc_some hσ4)) (fun _ => zpc_bu (w_fX8_putPlace h) (fun σ1 hσ1 => zpc_if (fun _ => w_fX8_putTurned_59 hσ1) (fun _ => zpc_if (fun _ => w_fX8_putTurned_59 hσ1) (fun _ => zpc_bu (w_fX8_putSign hσ1) (fun σ2 hσ2 => zpc_bu (w_fX8_putName hσ2) (fun σ3 hσ3 => w_fX8_putTurned_59 hσ3))))))
theorem w_fX8_putPair_28 {σ0 : zSt} {σ : zSt} (h : zKeC σ0 σ) : zpc (fX8_putPair_28 σ) (fun r => zKeC σ0 (r)) := by
  unfold fX8_putPair_28
  exact zpc_some h
theorem w_fX8_putPair {σ0 : zSt} {σ : zSt} {n1 : Nat} (h : zKeC σ0 σ) : zpc (fX8_putPair σ n1) (fun r => zKeC σ0 (r)) := by
  unfold fX8_putPair
  exact zpc_if (fun _ => zpc_bu (w_fX8_putHl h) (fun σ2 hσ2 => w_fX8_putPair_28 hσ2)) (fun _ => zpc_bu (w_fX8_putName h) (fun σ1 hσ1 => w_fX8_putPair_28 hσ1))
theorem w_fX8_putMeant_275 {σ0 : zSt} {σ : zSt} (h : zKeC σ0 σ) : zpc (fX8_putMeant_275 σ) (fun r => zKeC σ0 (r)) := by
  unfold fX8_putMeant_275
  exact zpc_some h
theorem w_fX8_putMeant_256 {σ0 : zSt} {σ : zSt} (h : zKeC σ0 σ) : zpc (fX8_putMeant_256 σ) (fun r => zKeC σ0 (r)) := by
  unfold fX8_putMeant_256
  exact zpc_bi (w_fX8_take h) (fun σ1 v2 hσ1 => zpc_bu (w_fX8_putWord hσ1) (fun σ3 hσ3 => w_fX8_putMeant_275 hσ3))
theorem w_fX8_putMeant {σ0 : zSt} {σ : zSt} {x1 : Int32} (h : zKeC σ0 σ) : zpc (fX8_putMeant σ x1) (fun r => zKeC σ0 (r)) := by
  unfold fX8_putMeant
  exact zpc_if (fun _ => zpc_bu (w_fX8_putSign h) (fun σ4 hσ4 => w_fX8_putMeant_275 hσ4)) (fun _ => zpc_if (fun _ => zpc_bu (w_fX8_putName h) (fun σ5 hσ5 => w_fX8_putMeant_275 hσ5)) (fun _ => zpc_if (fun _ => zpc_bu (w_fX8_putName h) (fun σ6 hσ6 => w_fX8_putMeant_275 hσ6)) (fun _ => zpc_if (fun _ => w_fX8_putMeant_256 h) (fun _ => zpc_if (fun _ => w_fX8_putMeant_256 h) (fun _ => zpc_if (fun _ => w_fX8_putMeant_256 h) (fun _ => zpc_if (fun _ => w_fX8_putMeant_256 h) (fun _ => zpc_if (fun _ => w_fX8_putMeant_256 h) (fun _ => zpc_if (fun _ => zpc_bu (w_fX8_putHl h) (fun σ7 hσ7 => w_fX8_putMeant_275 hσ7)) (fun _ => zpc_if (fun _ => w_fX8_putMeant_256 h) (fun _ => zpc_if (fun _ => w_fX8_putMeant_256 h) (fun _ => zpc_if (fun _ => w_fX8_putMeant_256 h) (fun _ => zpc_if (fun _ => zpc_bi (w_fX8_take h) (fun σ8 v9 hσ8 => zpc_bu (w_fX8_putByte hσ8) (fun σ10 hσ10 => w_fX8_putMeant_275 hσ10))) (fun _ => zpc_if (fun _ => w_fX8_putMeant_256 h) (fun _ => zpc_if (fun _ => zpc_bu (w_fX8_putPair h) (fun σ11 hσ11 => w_fX8_putMeant_275 hσ11)) (fun _ => zpc_if (fun _ => zpc_bu (w_fX8_putPair h) (fun σ12 hσ12 => w_fX8_putMeant_275 hσ12)) (fun _ => zpc_if (fun _ => w_fX8_putMeant_256 h) (fun _ => zpc_if (fun _ => w_fX8_putMeant_256 h) (fun _ => zpc_if (fun _ => zpc_bu (w_fX8_putTurned h) (fun σ13 hσ13 => w_fX8_putMeant_275 hσ13)) (fun _ => zpc_if (fun _ => w_fX8_putMeant_256 h) (fun _ => zpc_if (fun _ => zpc_bu (w_fX8_putByte h) (fun σ14 hσ14 => w_fX8_putMeant_275 hσ14)) (fun _ => zpc_if (fun _ => zpc_bi (w_fX8_take h) (fun σ15 v16 hσ15 => zpc_bi (w_fX8_take hσ15) (fun σ17 v18 hσ17 => zpc_bu (w_fX8_putWord hσ17) (fun σ19 hσ19 => w_fX8_putMeant_275 hσ19)))) (fun _ => zpc_if (fun _ => w_fX8_putMeant_256 h) (fun _ => zpc_if (fun _ => zpc_bu (w_fX8_putOne h) (fun σ20 hσ20 => w_fX8_putMeant_275 hσ20)) (fun _ => zpc_if (fun _ => zpc_bu (w_fX8_putOne h) (fun σ21 hσ21 => w_fX8_putMeant_275 hσ21)) (fun _ => w_fX8_putMeant_256 h)))))))))))))))))))))))))
theorem w_fX8_put_28 {σ0 : zSt} {k4 : zSt → Nat → Int32 → Int32 → Option (zSt)} (hk4 : ∀ (y0 : zSt) (y1 : Nat) (y2 : Int32) (y3 : Int32), zKeC σ0 y0 → zpc (k4 y0 y1 y2 y3) (fun r => zKeC σ0 (r))) {σ : zSt} {n1 : Nat} {x3 : Int32} {s0 : Int32} {s1 : Int32} (h : zKeC σ0 σ) : zpc (fX8_put_28 k4 σ n1 x3 s0 s1) (fun r => zKeC σ0 (r)) := by
  unfold fX8_put_28
  exact zpc_bv (fun v1 _ => zpc_bv (fun v2 _ => hk4 _ _ _ _ h))
theorem w_fX8_put_110 {σ0 : zSt} {k41 : zSt → Nat → Int32 → Int32 → Int32 → Option (zSt)} (hk41 : ∀ (y0 : zSt) (y1 : Nat) (y2 : Int32) (y3 : Int32) (y4 : Int32), zKeC σ0 y0 → zpc (k41 y0 y1 y2 y3 y4) (fun r => zKeC σ0 (r))) {σ : zSt} {n1 : Nat} {x2 : Int32} {x3 : Int32} {x4 : Int32} (h : zKeC σ0 σ) : zpc (fX8_put_110 k41 σ n1 x2 x3 x4) (fun r => zKeC σ0 (r)) := by
  unfold fX8_put_110
  exact zpc_bv (fun v3 _ => hk41 _ _ _ _ _ h)
theorem w_fX8_put_104 {σ0 : zSt} {k41 : zSt → Nat → Int32 → Int32 → Int32 → Option (zSt)} (hk41 : ∀ (y0 : zSt) (y1 : Nat) (y2 : Int32) (y3 : Int32) (y4 : Int32), zKeC σ0 y0 → zpc (k41 y0 y1 y2 y3 y4) (fun r => zKeC σ0 (r))) {σ : zSt} {n1 : Nat} {x2 : Int32} {x3 : Int32} {x4 : Int32} {x5 : Int32} (h : zKeC σ0 σ) : zpc (fX8_put_104 k41 σ n1 x2 x3 x4 x5) (fun r => zKeC σ0 (r)) := by
  unfold fX8_put_104
  exact zpc_bu (w_fX8_putSign h) (fun σ4 hσ4 => w_fX8_put_110 hk41 hσ4)
theorem w_fX8_put_41_body {σ0 : zSt} {k41 : zSt → Nat → Int32 → Int32 → Int32 → Option (zSt)} (hk41 : ∀ (y0 : zSt) (y1 : Nat) (y2 : Int32) (y3 : Int32) (y4 : Int32), zKeC σ0 y0 → zpc (k41 y0 y1 y2 y3 y4) (fun r => zKeC σ0 (r))) {σ : zSt} {n1 : Nat} {x2 : Int32} {x3 : Int32} {x4 : Int32} (h : zKeC σ0 σ) : zpc (fX8_put_41_body k41 σ n1 x2 x3 x4) (fun r => zKeC σ0 (r)) := by
  unfold fX8_put_41_body
  exact zpc_ck (zpc_if (fun _ => zpc_some h) (fun _ => zpc_ck (zpc_ck (zpc_bv (fun v5 _ => zpc_if (fun _ => zpc_bv (fun v7 _ => w_fX8_put_110 hk41 h)) (fun _ => zpc_ck (zpc_if (fun _ => zpc_if (fun _ => w_fX8_put_104 hk41 h) (fun _ => zpc_if (fun _ => w_fX8_put_104 hk41 h) (fun _ => zpc_bu (w_fX8_putMeant h) (fun σ6 hσ6 => w_fX8_put_110 hk41 hσ6)))) (fun _ => w_fX8_put_110 hk41 h))))))))
theorem w_fX8_put_41 {σ0 : zSt} : ∀ (n : Nat) (y0 : zSt) (y1 : Nat) (y2 : Int32) (y3 : Int32) (y4 : Int32), zKeC σ0 y0 → zpc (fX8_put_41 n y0 y1 y2 y3 y4) (fun r => zKeC σ0 (r)) := by
  intro n
  induction n with
  | zero => intro y0 y1 y2 y3 y4 h; exact zpc_none
  | succ n ih => intro y0 y1 y2 y3 y4 h; exact w_fX8_put_41_body ih h
theorem w_fX8_put_4_body {σ0 : zSt} {k4 : zSt → Nat → Int32 → Int32 → Option (zSt)} (hk4 : ∀ (y0 : zSt) (y1 : Nat) (y2 : Int32) (y3 : Int32), zKeC σ0 y0 → zpc (k4 y0 y1 y2 y3) (fun r => zKeC σ0 (r))) {σ : zSt} {n1 : Nat} {x2 : Int32} {x3 : Int32} (h : zKeC σ0 σ) : zpc (fX8_put_4_body k4 σ n1 x2 x3) (fun r => zKeC σ0 (r)) := by
  unfold fX8_put_4_body
  exact zpc_ck (zpc_if (fun _ => w_fX8_put_41 _ _ _ _ _ _ h) (fun _ => zpc_ck (zpc_ck (zpc_if (fun _ => w_fX8_put_28 hk4 h) (fun _ => w_fX8_put_28 hk4 h)))))
theorem w_fX8_put_4 {σ0 : zSt} : ∀ (n : Nat) (y0 : zSt) (y1 : Nat) (y2 : Int32) (y3 : Int32), zKeC σ0 y0 → zpc (fX8_put_4 n y0 y1 y2 y3) (fun r => zKeC σ0 (r)) := by
  intro n
  induction n with
  | zero => intro y0 y1 y2 y3 h; exact zpc_none
  | succ n ih => intro y0 y1 y2 y3 h; exact w_fX8_put_4_body ih h
theorem w_fX8_put {σ0 : zSt} {σ : zSt} {n1 : Nat} (h : zKeC σ0 σ) : zpc (fX8_put σ n1) (fun r => zKeC σ0 (r)) := by
  unfold fX8_put
  exact w_fX8_put_4 _ _ _ _ _ h
theorem w_fX8_split {σ0 : zSt} {σ : zSt} {x1 : Int32} (h : zKeC σ0 σ) : zpc (fX8_split σ x1) (fun r => zKeC σ0 (r)) := by
  unfold fX8_split
  exact zpc_bs (zKeC.wi h (by decide)) (fun σ1 hσ1 => zpc_bs (zKeC.wi hσ1 (by decide)) (fun σ2 hσ2 => zpc_bs (zKeC.wi hσ2 (by decide)) (fun σ3 hσ3 => zpc_some hσ3)))
theorem w_fX8_turnPatterns {σ0 : zSt} {σ : zSt} (h : zKeC σ0 σ) : zpc (fX8_turnPatterns σ) (fun r => zKeC σ0 (r.1)) := by
  unfold fX8_turnPatterns
  exact zpc_if (fun _ => zpc_some h) (fun _ => zpc_if (fun _ => zpc_some h) (fun _ => zpc_if (fun _ => zpc_some h) (fun _ => zpc_some h)))
theorem w_fX8_blockPatterns_17 {σ0 : zSt} {σ : zSt} {s0 : Int32} (h : zKeC σ0 σ) : zpc (fX8_blockPatterns_17 σ s0) (fun r => zKeC σ0 (r.1)) := by
  unfold fX8_blockPatterns_17
  exact zpc_if (fun _ => zpc_some h) (fun _ => zpc_if (fun _ => zpc_some h) (fun _ => zpc_if (fun _ => zpc_some h) (fun _ => zpc_if (fun _ => zpc_some h) (fun _ => zpc_some h))))
theorem w_fX8_blockPatterns {σ0 : zSt} {σ : zSt} (h : zKeC σ0 σ) : zpc (fX8_blockPatterns σ) (fun r => zKeC σ0 (r.1)) := by
  unfold fX8_blockPatterns
  exact zpc_if (fun _ => w_fX8_blockPatterns_17 h) (fun _ => w_fX8_blockPatterns_17 h)
theorem w_fX8_morePatterns_114 {σ0 : zSt} {σ : zSt} {s0 : Nat} (h : zKeC σ0 σ) : zpc (fX8_morePatterns_114 σ s0) (fun r => zKeC σ0 (r.1)) := by
  unfold fX8_morePatterns_114
  exact zpc_some h
theorem w_fX8_morePatterns_89 {σ0 : zSt} {σ : zSt} {s0 : Nat} (h : zKeC σ0 σ) : zpc (fX8_morePatterns_89 σ s0) (fun r => zKeC σ0 (r.1)) := by
  unfold fX8_morePatterns_89
  exact zpc_some h
theorem w_fX8_morePatterns_72 {σ0 : zSt} {σ : zSt} {s0 : Nat} (h : zKeC σ0 σ) : zpc (fX8_morePatterns_72 σ s0) (fun r => zKeC σ0 (r.1)) := by
  unfold fX8_morePatterns_72
  exact zpc_some h
theorem w_fX8_morePatterns {σ0 : zSt} {σ : zSt} (h : zKeC σ0 σ) : zpc (fX8_morePatterns σ) (fun r => zKeC σ0 (r.1)) := by
  unfold fX8_morePatterns
  exact zpc_if (fun _ => zpc_if (fun _ => zpc_if (fun _ => w_fX8_morePatterns_72 h) (fun _ => w_fX8_morePatterns_72 h)) (fun _ => zpc_if (fun _ => zpc_if (fun _ => w_fX8_morePatterns_89 h) (fun _ => w_fX8_morePatterns_89 h)) (fun _ => zpc_if (fun _ => zpc_some h) (fun _ => zpc_if (fun _ => zpc_some h) (fun _ => zpc_if (fun _ => zpc_some h) (fun _ => zpc_if (fun _ => zpc_if (fun _ => w_fX8_morePatterns_114 h) (fun _ => w_fX8_morePatterns_114 h)) (fun _ => zpc_if (fun _ => zpc_some h) (fun _ => zpc_some h)))))))) (fun _ => zpc_some h)
theorem w_fX8_lastPatterns {σ0 : zSt} {σ : zSt} (h : zKeC σ0 σ) : zpc (fX8_lastPatterns σ) (fun r => zKeC σ0 (r.1)) := by
  unfold fX8_lastPatterns
  exact zpc_if (fun _ => zpc_some h) (fun _ => zpc_if (fun _ => zpc_some h) (fun _ => zpc_if (fun _ => zpc_some h) (fun _ => zpc_if (fun _ => zpc_some h) (fun _ => zpc_if (fun _ => zpc_some h) (fun _ => zpc_if (fun _ => zpc_some h) (fun _ => zpc_if (fun _ => zpc_some h) (fun _ => zpc_some h)))))))
theorem w_fX8_firstPatterns {σ0 : zSt} {σ : zSt} (h : zKeC σ0 σ) : zpc (fX8_firstPatterns σ) (fun r => zKeC σ0 (r.1)) := by
  unfold fX8_firstPatterns
  exact zpc_if (fun _ => zpc_some h) (fun _ => zpc_if (fun _ => zpc_some h) (fun _ => zpc_if (fun _ => zpc_some h) (fun _ => zpc_if (fun _ => zpc_some h) (fun _ => zpc_if (fun _ => zpc_some h) (fun _ => zpc_if (fun _ => zpc_some h) (fun _ => zpc_if (fun _ => zpc_some h) (fun _ => zpc_some h)))))))
theorem w_fX8_patternsOf_23 {σ0 : zSt} {σ : zSt} {s0 : Int32} (h : zKeC σ0 σ) : zpc (fX8_patternsOf_23 σ s0) (fun r => zKeC σ0 (r.1)) := by
  unfold fX8_patternsOf_23
  exact zpc_bs (zKeC.wi h (by decide)) (fun σ1 hσ1 => zpc_bi (w_fX8_take hσ1) (fun σ2 v3 hσ2 => zpc_bu (w_fX8_split hσ2) (fun σ4 hσ4 => zpc_bk (w_fX8_turnPatterns hσ4) (fun σ5 v6 hσ5 => zpc_some hσ5))))
theorem w_fX8_patternsOf_73 {σ0 : zSt} {σ : zSt} {s0 : Nat} (h : zKeC σ0 σ) : zpc (fX8_patternsOf_73 σ s0) (fun r => zKeC σ0 (r.1)) := by
  unfold fX8_patternsOf_73
  exact zpc_some h
theorem w_fX8_patternsOf_126 {σ0 : zSt} {σ : zSt} {s0 : Nat} (h : zKeC σ0 σ) : zpc (fX8_patternsOf_126 σ s0) (fun r => zKeC σ0 (r.1)) := by
  unfold fX8_patternsOf_126
  exact zpc_some h
theorem w_fX8_patternsOf {σ0 : zSt} {σ : zSt} {x1 : Int32} (h : zKeC σ0 σ) : zpc (fX8_patternsOf σ x1) (fun r => zKeC σ0 (r.1)) := by
  unfold fX8_patternsOf
  exact zpc_if (fun _ => zpc_if (fun _ => w_fX8_patternsOf_23 h) (fun _ => zpc_bi (w_fX8_take h) (fun σ19 v20 hσ19 => w_fX8_patternsOf_23 hσ19))) (fun _ => zpc_if (fun _ => zpc_bi (w_fX8_take h) (fun σ12 v13 hσ12 => zpc_bu (w_fX8_split hσ12) (fun σ14 hσ14 => zpc_if (fun _ => zpc_bk (w_fX8_blockPatterns hσ14) (fun σ17 v18 hσ17 => w_fX8_patternsOf_73 hσ17)) (fun _ => zpc_bk (w_fX8_morePatterns hσ14) (fun σ15 v16 hσ15 => w_fX8_patternsOf_73 hσ15))))) (fun _ => zpc_bu (w_fX8_split h) (fun σ7 hσ7 => zpc_if (fun _ => zpc_bk (w_fX8_firstPatterns hσ7) (fun σ8 v9 hσ8 => zpc_some hσ8)) (fun _ => zpc_if (fun _ => zpc_if (fun _ => w_fX8_patternsOf_126 hσ7) (fun _ => w_fX8_patternsOf_126 hσ7)) (fun _ => zpc_if (fun _ => zpc_some hσ7) (fun _ => zpc_bk (w_fX8_lastPatterns hσ7) (fun σ10 v11 hσ10 => zpc_some hσ10)))))))
theorem w_fX8_write_82 {σ0 : zSt} {σ : zSt} (h : zKeC σ0 σ) : zpc (fX8_write_82 σ) (fun r => zKeC σ0 (r.1)) := by
  unfold fX8_write_82
  exact zpc_bu (w_fX8_put h) (fun σ1 hσ1 => zpc_some hσ1)
theorem w_fX8_write_124 {σ0 : zSt} {σ : zSt} {x2 : Int32} (h : zKeC σ0 σ) : zpc (fX8_write_124 σ x2) (fun r => zKeC σ0 (r.1)) := by
  unfold fX8_write_124
  exact zpc_bk (w_fX8_patternsOf h) (fun σ2 v3 hσ2 => zpc_bu (w_fX8_put hσ2) (fun σ4 hσ4 => zpc_some hσ4))
theorem w_fX8_write_108 {σ0 : zSt} {σ : zSt} {s0 : Int32} (h : zKeC σ0 σ) : zpc (fX8_write_108 σ s0) (fun r => zKeC σ0 (r.1)) := by
  unfold fX8_write_108
  exact zpc_bs (zKeC.wi h (by decide)) (fun σ5 hσ5 => zpc_bi (w_fX8_take hσ5) (fun σ6 v7 hσ6 => zpc_bi (w_fX5_meansPlace hσ6) (fun σ8 v9 hσ8 => zpc_ck (zpc_bs (zKeC.wi hσ8 (by decide)) (fun σ10 hσ10 => w_fX8_write_124 hσ10)))))
theorem w_fX8_write_47 {σ0 : zSt} {σ : zSt} {x2 : Int32} (h : zKeC σ0 σ) : zpc (fX8_write_47 σ x2) (fun r => zKeC σ0 (r.1)) := by
  unfold fX8_write_47
  exact zpc_bi (w_fX2_read h) (fun σ11 v12 hσ11 => zpc_if (fun _ => w_fX8_write_82 hσ11) (fun _ => zpc_if (fun _ => w_fX8_write_82 hσ11) (fun _ => zpc_if (fun _ => w_fX8_write_82 hσ11) (fun _ => zpc_if (fun _ => w_fX8_write_108 hσ11) (fun _ => w_fX8_write_108 hσ11)))))
theorem w_fX8_write {σ0 : zSt} {σ : zSt} {x1 : Int32} (h : zKeC σ0 σ) : zpc (fX8_write σ x1) (fun r => zKeC σ0 (r.1)) := by
  unfold fX8_write
  exact zpc_bs (zKeC.wi h (by decide)) (fun σ13 hσ13 => zpc_bs (zKeC.wi hσ13 (by decide)) (fun σ14 hσ14 => zpc_bs (zKeC.wi hσ14 (by decide)) (fun σ15 hσ15 => zpc_bs (zKeC.wi hσ15 (by decide)) (fun σ16 hσ16 => zpc_ck (zpc_bs (zKeC.wi hσ16 (by decide)) (fun σ17 hσ17 => zpc_bi (w_fX8_take hσ17) (fun σ18 v19 hσ18 => zpc_if (fun _ => w_fX8_write_47 hσ18) (fun _ => zpc_if (fun _ => w_fX8_write_47 hσ18) (fun _ => w_fX8_write_124 hσ18)))))))))
theorem w_fX8_eightFrom_39 {σ0 : zSt} {k6 : zSt → Int32 → Int64 → Int32 → Option (zSt × Int64)} (hk6 : ∀ (y0 : zSt) (y1 : Int32) (y2 : Int64) (y3 : Int32), zKeC σ0 y0 → zpc (k6 y0 y1 y2 y3) (fun r => zKeC σ0 (r.1))) {σ : zSt} {x1 : Int32} {x2 : Int64} {x4 : Int32} {s0 : Int32} (h : zKeC σ0 σ) : zpc (fX8_eightFrom_39 k6 σ x1 x2 x4 s0) (fun r => zKeC σ0 (r.1)) := by
  unfold fX8_eightFrom_39
  exact zpc_bv (fun v1 _ => zpc_bv (fun v2 _ => hk6 _ _ _ _ h))
theorem w_fX8_eightFrom_38 {σ0 : zSt} {k6 : zSt → Int32 → Int64 → Int32 → Option (zSt × Int64)} (hk6 : ∀ (y0 : zSt) (y1 : Int32) (y2 : Int64) (y3 : Int32), zKeC σ0 y0 → zpc (k6 y0 y1 y2 y3) (fun r => zKeC σ0 (r.1))) {σ : zSt} {x1 : Int32} {x2 : Int64} {x4 : Int32} (h : zKeC σ0 σ) : zpc (fX8_eightFrom_38 k6 σ x1 x2 x4) (fun r => zKeC σ0 (r.1)) := by
  unfold fX8_eightFrom_38
  exact w_fX8_eightFrom_39 hk6 h
theorem w_fX8_eightFrom_6_body {σ0 : zSt} {k6 : zSt → Int32 → Int64 → Int32 → Option (zSt × Int64)} (hk6 : ∀ (y0 : zSt) (y1 : Int32) (y2 : Int64) (y3 : Int32), zKeC σ0 y0 → zpc (k6 y0 y1 y2 y3) (fun r => zKeC σ0 (r.1))) {σ : zSt} {x1 : Int32} {x2 : Int64} {x4 : Int32} (h : zKeC σ0 σ) : zpc (fX8_eightFrom_6_body k6 σ x1 x2 x4) (fun r => zKeC σ0 (r.1)) := by
  unfold fX8_eightFrom_6_body
  exact zpc_if (fun _ => zpc_some h) (fun _ => zpc_if (fun _ => w_fX8_eightFrom_38 hk6 h) (fun _ => zpc_if (fun _ => w_fX8_eightFrom_38 hk6 h) (fun _ => zpc_ck (w_fX8_eightFrom_39 hk6 h))))
theorem w_fX8_eightFrom_6 {σ0 : zSt} : ∀ (n : Nat) (y0 : zSt) (y1 : Int32) (y2 : Int64) (y3 : Int32), zKeC σ0 y0 → zpc (fX8_eightFrom_6 n y0 y1 y2 y3) (fun r => zKeC σ0 (r.1)) := by
  intro n
  induction n with
  | zero => intro y0 y1 y2 y3 h; exact zpc_none
  | succ n ih => intro y0 y1 y2 y3 h; exact w_fX8_eightFrom_6_body ih h
theorem w_fX8_eightFrom {σ0 : zSt} {σ : zSt} {x1 : Int32} (h : zKeC σ0 σ) : zpc (fX8_eightFrom σ x1) (fun r => zKeC σ0 (r.1)) := by
  unfold fX8_eightFrom
  exact w_fX8_eightFrom_6 _ _ _ _ _ h
theorem w_fJ7_fill_53178_k21_5_body {σ0 : zSt} {k5 : zSt → Int32 → Int32 → Int32 → Option (zSt)} (hk5 : ∀ (y0 : zSt) (y1 : Int32) (y2 : Int32) (y3 : Int32), zKeC σ0 y0 → zpc (k5 y0 y1 y2 y3) (fun r => zKeC σ0 (r))) {σ : zSt} {x1 : Int32} {x2 : Int32} {x3 : Int32} (h : zKeC σ0 σ) : zpc (fJ7_fill_53178_k21_5_body k5 σ x1 x2 x3) (fun r => zKeC σ0 (r)) := by
  unfold fJ7_fill_53178_k21_5_body
  exact zpc_if (fun _ => zpc_some h) (fun _ => zpc_ck (zpc_bs (zKeC.wi h (by decide)) (fun σ1 hσ1 => zpc_bv (fun v2 _ => hk5 _ _ _ _ hσ1))))
theorem w_fJ7_fill_53178_k21_5 {σ0 : zSt} : ∀ (n : Nat) (y0 : zSt) (y1 : Int32) (y2 : Int32) (y3 : Int32), zKeC σ0 y0 → zpc (fJ7_fill_53178_k21_5 n y0 y1 y2 y3) (fun r => zKeC σ0 (r)) := by
  intro n
  induction n with
  | zero => intro y0 y1 y2 y3 h; exact zpc_none
  | succ n ih => intro y0 y1 y2 y3 h; exact w_fJ7_fill_53178_k21_5_body ih h
theorem w_fJ7_fill_53178_k21 {σ0 : zSt} {σ : zSt} {x1 : Int32} (h : zKeC σ0 σ) : zpc (fJ7_fill_53178_k21 σ x1) (fun r => zKeC σ0 (r)) := by
  unfold fJ7_fill_53178_k21
  exact w_fJ7_fill_53178_k21_5 _ _ _ _ _ h
theorem w_fJ7_fill_53178_k23_5_body {σ0 : zSt} {k5 : zSt → Int32 → Int32 → Int32 → Option (zSt)} (hk5 : ∀ (y0 : zSt) (y1 : Int32) (y2 : Int32) (y3 : Int32), zKeC σ0 y0 → zpc (k5 y0 y1 y2 y3) (fun r => zKeC σ0 (r))) {σ : zSt} {x1 : Int32} {x2 : Int32} {x3 : Int32} (h : zKeC σ0 σ) : zpc (fJ7_fill_53178_k23_5_body k5 σ x1 x2 x3) (fun r => zKeC σ0 (r)) := by
  unfold fJ7_fill_53178_k23_5_body
  exact zpc_if (fun _ => zpc_some h) (fun _ => zpc_ck (zpc_bs (zKeC.wi h (by decide)) (fun σ1 hσ1 => zpc_bv (fun v2 _ => hk5 _ _ _ _ hσ1))))
theorem w_fJ7_fill_53178_k23_5 {σ0 : zSt} : ∀ (n : Nat) (y0 : zSt) (y1 : Int32) (y2 : Int32) (y3 : Int32), zKeC σ0 y0 → zpc (fJ7_fill_53178_k23_5 n y0 y1 y2 y3) (fun r => zKeC σ0 (r)) := by
  intro n
  induction n with
  | zero => intro y0 y1 y2 y3 h; exact zpc_none
  | succ n ih => intro y0 y1 y2 y3 h; exact w_fJ7_fill_53178_k23_5_body ih h
theorem w_fJ7_fill_53178_k23 {σ0 : zSt} {σ : zSt} {x1 : Int32} (h : zKeC σ0 σ) : zpc (fJ7_fill_53178_k23 σ x1) (fun r => zKeC σ0 (r)) := by
  unfold fJ7_fill_53178_k23
  exact w_fJ7_fill_53178_k23_5 _ _ _ _ _ h
theorem w_fX9_clear {σ0 : zSt} {σ : zSt} (h : zKeC σ0 σ) : zpc (fX9_clear σ) (fun r => zKeC σ0 (r)) := by
  unfold fX9_clear
  exact zpc_bu (w_fJ7_fill_53178_k21 h) (fun σ1 hσ1 => zpc_bu (w_fJ7_fill_53178_k23 hσ1) (fun σ2 hσ2 => zpc_some hσ2))
theorem w_fX9_keep {σ0 : zSt} {σ : zSt} (h : zKeC σ0 σ) : zpc (fX9_keep σ) (fun r => zKeC σ0 (r)) := by
  unfold fX9_keep
  exact zpc_ck (zpc_bs (zKeC.ci h (by decide)) (fun σ1 hσ1 => zpc_ck (zpc_bs (zKeC.ci hσ1 (by decide)) (fun σ2 hσ2 => zpc_some hσ2))))
theorem w_fX9_bringBack {σ0 : zSt} {σ : zSt} (h : zKeC σ0 σ) : zpc (fX9_bringBack σ) (fun r => zKeC σ0 (r)) := by
  unfold fX9_bringBack
  exact zpc_ck (zpc_bs (zKeC.ci h (by decide)) (fun σ1 hσ1 => zpc_ck (zpc_bs (zKeC.ci hσ1 (by decide)) (fun σ2 hσ2 => zpc_some hσ2))))
theorem w_fX9_has_27 {σ0 : zSt} {σ : zSt} {s0 : Int32} (h : zKeC σ0 σ) : zpc (fX9_has_27 σ s0) (fun r => zKeC σ0 (r.1)) := by
  unfold fX9_has_27
  exact zpc_ck (zpc_some h)
theorem w_fX9_has_26 {σ0 : zSt} {σ : zSt} (h : zKeC σ0 σ) : zpc (fX9_has_26 σ) (fun r => zKeC σ0 (r.1)) := by
  unfold fX9_has_26
  exact w_fX9_has_27 h
theorem w_fX9_has_22 {σ0 : zSt} {σ : zSt} (h : zKeC σ0 σ) : zpc (fX9_has_22 σ) (fun r => zKeC σ0 (r.1)) := by
  unfold fX9_has_22
  exact w_fX9_has_27 h
theorem w_fX9_has_10 {σ0 : zSt} {σ : zSt} {x0 : Int32} (h : zKeC σ0 σ) : zpc (fX9_has_10 σ x0) (fun r => zKeC σ0 (r.1)) := by
  unfold fX9_has_10
  exact zpc_if (fun _ => w_fX9_has_26 h) (fun _ => zpc_if (fun _ => w_fX9_has_26 h) (fun _ => w_fX9_has_22 h))
theorem w_fX9_has {σ0 : zSt} {σ : zSt} {x0 : Int32} (h : zKeC σ0 σ) : zpc (fX9_has σ x0) (fun r => zKeC σ0 (r.1)) := by
  unfold fX9_has
  exact zpc_if (fun _ => w_fX9_has_10 h) (fun _ => zpc_if (fun _ => w_fX9_has_22 h) (fun _ => w_fX9_has_10 h))
theorem w_fX9_asks_54 {σ0 : zSt} {σ : zSt} {s0 : Int32} (h : zKeC σ0 σ) : zpc (fX9_asks_54 σ s0) (fun r => zKeC σ0 (r.1)) := by
  unfold fX9_asks_54
  exact zpc_ck (zpc_some h)
theorem w_fX9_asks_53 {σ0 : zSt} {σ : zSt} (h : zKeC σ0 σ) : zpc (fX9_asks_53 σ) (fun r => zKeC σ0 (r.1)) := by
  unfold fX9_asks_53
  exact w_fX9_asks_54 h
theorem w_fX9_asks_49 {σ0 : zSt} {σ : zSt} (h : zKeC σ0 σ) : zpc (fX9_asks_49 σ) (fun r => zKeC σ0 (r.1)) := by
  unfold fX9_asks_49
  exact w_fX9_asks_54 h
theorem w_fX9_asks_26 {σ0 : zSt} {σ : zSt} (h : zKeC σ0 σ) : zpc (fX9_asks_26 σ) (fun r => zKeC σ0 (r.1)) := by
  unfold fX9_asks_26
  exact zpc_ck (zpc_if (fun _ => w_fX9_asks_53 h) (fun _ => zpc_ck (zpc_if (fun _ => w_fX9_asks_49 h) (fun _ => w_fX9_asks_53 h))))
theorem w_fX9_asks {σ0 : zSt} {σ : zSt} (h : zKeC σ0 σ) : zpc (fX9_asks σ) (fun r => zKeC σ0 (r.1)) := by
  unfold fX9_asks
  exact zpc_ck (zpc_if (fun _ => w_fX9_asks_26 h) (fun _ => zpc_ck (zpc_if (fun _ => w_fX9_asks_26 h) (fun _ => w_fX9_asks_49 h))))
theorem w_fX9_value_85 {σ0 : zSt} {σ : zSt} {x1 : Int32} (h : zKeC σ0 σ) : zpc (fX9_value_85 σ x1) (fun r => zKeC σ0 (r.1)) := by
  unfold fX9_value_85
  exact zpc_bi (w_fX9_held h) (fun σ1 v2 hσ1 => zpc_some hσ1)
theorem w_fX9_value_64 {σ0 : zSt} {σ : zSt} {s0 : Int32} (h : zKeC σ0 σ) : zpc (fX9_value_64 σ s0) (fun r => zKeC σ0 (r.1)) := by
  unfold fX9_value_64
  exact zpc_some h
theorem w_fX9_value {σ0 : zSt} {σ : zSt} {x1 : Int32} (h : zKeC σ0 σ) : zpc (fX9_value σ x1) (fun r => zKeC σ0 (r.1)) := by
  unfold fX9_value
  exact zpc_if (fun _ => zpc_bi (w_fX9_asks h) (fun σ3 v4 hσ3 => zpc_if (fun _ => w_fX9_value_64 hσ3) (fun _ => w_fX9_value_64 hσ3))) (fun _ => zpc_if (fun _ => w_fX9_value_85 h) (fun _ => zpc_if (fun _ => w_fX9_value_85 h) (fun _ => zpc_if (fun _ => w_fX9_value_85 h) (fun _ => zpc_if (fun _ => w_fX9_value_85 h) (fun _ => zpc_if (fun _ => zpc_bi (w_fX9_mode h) (fun σ5 v6 hσ5 => zpc_some hσ5)) (fun _ => zpc_if (fun _ => zpc_bi (w_fX9_height h) (fun σ7 v8 hσ7 => zpc_some hσ7)) (fun _ => zpc_if (fun _ => zpc_bi (w_fX9_hCount h) (fun σ9 v10 hσ9 => zpc_some hσ9)) (fun _ => zpc_if (fun _ => zpc_bi (w_fX9_vCount h) (fun σ11 v12 hσ11 => zpc_some hσ11)) (fun _ => w_fX9_value_85 h)))))))))
theorem w_fX9_eightFrom_6_body {σ0 : zSt} {k6 : zSt → Int32 → Int64 → Int32 → Option (zSt × Int64)} (hk6 : ∀ (y0 : zSt) (y1 : Int32) (y2 : Int64) (y3 : Int32), zKeC σ0 y0 → zpc (k6 y0 y1 y2 y3) (fun r => zKeC σ0 (r.1))) {σ : zSt} {x1 : Int32} {x2 : Int64} {x4 : Int32} (h : zKeC σ0 σ) : zpc (fX9_eightFrom_6_body k6 σ x1 x2 x4) (fun r => zKeC σ0 (r.1)) := by
  unfold fX9_eightFrom_6_body
  exact zpc_if (fun _ => zpc_some h) (fun _ => zpc_ck (zpc_bv (fun v1 _ => zpc_bv (fun v2 _ => hk6 _ _ _ _ h))))
theorem w_fX9_eightFrom_6 {σ0 : zSt} : ∀ (n : Nat) (y0 : zSt) (y1 : Int32) (y2 : Int64) (y3 : Int32), zKeC σ0 y0 → zpc (fX9_eightFrom_6 n y0 y1 y2 y3) (fun r => zKeC σ0 (r.1)) := by
  intro n
  induction n with
  | zero => intro y0 y1 y2 y3 h; exact zpc_none
  | succ n ih => intro y0 y1 y2 y3 h; exact w_fX9_eightFrom_6_body ih h
theorem w_fX9_eightFrom {σ0 : zSt} {σ : zSt} {x1 : Int32} (h : zKeC σ0 σ) : zpc (fX9_eightFrom σ x1) (fun r => zKeC σ0 (r.1)) := by
  unfold fX9_eightFrom
  exact w_fX9_eightFrom_6 _ _ _ _ _ h
theorem w_fX9_passes {σ0 : zSt} {σ : zSt} {x1 : Int32} (h : zKeC σ0 σ) : zpc (fX9_passes σ x1) (fun r => zKeC σ0 (r.1)) := by
  unfold fX9_passes
  exact zpc_ck (zpc_ck (zpc_bs (zKeC.wi h (by decide)) (fun σ1 hσ1 => zpc_ck (zpc_if (fun _ => zpc_ck (zpc_ck (zpc_bs (zKeC.wi hσ1 (by decide)) (fun σ2 hσ2 => zpc_ck (zpc_some hσ2))))) (fun _ => zpc_ck (zpc_some hσ1))))))
theorem w_fX9_goesToNextLine_159 {σ0 : zSt} {σ : zSt} {x2 : Int32} (h : zKeC σ0 σ) : zpc (fX9_goesToNextLine_159 σ x2) (fun r => zKeC σ0 (r.1)) := by
  unfold fX9_goesToNextLine_159
  exact zpc_ck (zpc_some h)
theorem w_fX9_goesToNextLine_133 {σ0 : zSt} {σ : zSt} {x1 : Int32} {x2 : Int32} (h : zKeC σ0 σ) : zpc (fX9_goesToNextLine_133 σ x1 x2) (fun r => zKeC σ0 (r.1)) := by
  unfold fX9_goesToNextLine_133
  exact zpc_ck (zpc_if (fun _ => zpc_ck (zpc_ck (zpc_bs (zKeC.wi h (by decide)) (fun σ1 hσ1 => w_fX9_goesToNextLine_159 hσ1)))) (fun _ => w_fX9_goesToNextLine_159 h))
theorem w_fX9_goesToNextLine_106 {σ0 : zSt} {σ : zSt} {x1 : Int32} {s0 : Int32} (h : zKeC σ0 σ) : zpc (fX9_goesToNextLine_106 σ x1 s0) (fun r => zKeC σ0 (r.1)) := by
  unfold fX9_goesToNextLine_106
  exact zpc_if (fun _ => w_fX9_goesToNextLine_133 h) (fun _ => zpc_ck (zpc_bs (zKeC.wi h (by decide)) (fun σ2 hσ2 => zpc_ck (zpc_ck (zpc_bs (zKeC.wi hσ2 (by decide)) (fun σ3 hσ3 => w_fX9_goesToNextLine_133 hσ3))))))
theorem w_fX9_goesToNextLine_76 {σ0 : zSt} {σ : zSt} {x1 : Int32} (h : zKeC σ0 σ) : zpc (fX9_goesToNextLine_76 σ x1) (fun r => zKeC σ0 (r.1)) := by
  unfold fX9_goesToNextLine_76
  exact zpc_ck (zpc_ck (zpc_bs (zKeC.wi h (by decide)) (fun σ4 hσ4 => zpc_ck (zpc_if (fun _ => w_fX9_goesToNextLine_106 hσ4) (fun _ => w_fX9_goesToNextLine_106 hσ4)))))
theorem w_fX9_goesToNextLine {σ0 : zSt} {σ : zSt} (h : zKeC σ0 σ) : zpc (fX9_goesToNextLine σ) (fun r => zKeC σ0 (r.1)) := by
  unfold fX9_goesToNextLine
  exact zpc_bi (w_fX9_height h) (fun σ5 v6 hσ5 => zpc_ck (zpc_if (fun _ => zpc_ck (zpc_ck (zpc_bs (zKeC.wi hσ5 (by decide)) (fun σ7 hσ7 => zpc_ck (zpc_if (fun _ => w_fX9_goesToNextLine_76 hσ7) (fun _ => zpc_ck (zpc_ck (zpc_bs (zKeC.wi hσ7 (by decide)) (fun σ8 hσ8 => zpc_ck (zpc_bs (zKeC.wi hσ8 (by decide)) (fun σ9 hσ9 => w_fX9_goesToNextLine_76 hσ9))))))))))) (fun _ => zpc_ck (zpc_ck (zpc_bs (zKeC.wi hσ5 (by decide)) (fun σ10 hσ10 => w_fX9_goesToNextLine_76 hσ10))))))
theorem w_fJ7_fill_53178_k32_5_body {σ0 : zSt} {k5 : zSt → Int32 → Int32 → Int32 → Option (zSt)} (hk5 : ∀ (y0 : zSt) (y1 : Int32) (y2 : Int32) (y3 : Int32), zKeC σ0 y0 → zpc (k5 y0 y1 y2 y3) (fun r => zKeC σ0 (r))) {σ : zSt} {x1 : Int32} {x2 : Int32} {x3 : Int32} (h : zKeC σ0 σ) : zpc (fJ7_fill_53178_k32_5_body k5 σ x1 x2 x3) (fun r => zKeC σ0 (r)) := by
  unfold fJ7_fill_53178_k32_5_body
  exact zpc_if (fun _ => zpc_some h) (fun _ => zpc_ck (zpc_bs (zKeC.wi h (by decide)) (fun σ1 hσ1 => zpc_bv (fun v2 _ => hk5 _ _ _ _ hσ1))))
theorem w_fJ7_fill_53178_k32_5 {σ0 : zSt} : ∀ (n : Nat) (y0 : zSt) (y1 : Int32) (y2 : Int32) (y3 : Int32), zKeC σ0 y0 → zpc (fJ7_fill_53178_k32_5 n y0 y1 y2 y3) (fun r => zKeC σ0 (r)) := by
  intro n
  induction n with
  | zero => intro y0 y1 y2 y3 h; exact zpc_none
  | succ n ih => intro y0 y1 y2 y3 h; exact w_fJ7_fill_53178_k32_5_body ih h
theorem w_fJ7_fill_53178_k32 {σ0 : zSt} {σ : zSt} {x1 : Int32} (h : zKeC σ0 σ) : zpc (fJ7_fill_53178_k32 σ x1) (fun r => zKeC σ0 (r)) := by
  unfold fJ7_fill_53178_k32
  exact w_fJ7_fill_53178_k32_5 _ _ _ _ _ h
theorem w_fX10_clear_36_body {σ0 : zSt} {k36 : zSt → Int32 → Option (zSt)} (hk36 : ∀ (y0 : zSt) (y1 : Int32), zKeC σ0 y0 → zpc (k36 y0 y1) (fun r => zKeC σ0 (r))) {σ : zSt} {x2 : Int32} (h : zKeC σ0 σ) : zpc (fX10_clear_36_body k36 σ x2) (fun r => zKeC σ0 (r)) := by
  unfold fX10_clear_36_body
  exact zpc_if (fun _ => zpc_some h) (fun _ => zpc_ck (zpc_bs (zKeC.wi h (by decide)) (fun σ1 hσ1 => zpc_ck (zpc_bs (zKeC.wi hσ1 (by decide)) (fun σ2 hσ2 => zpc_bv (fun v3 _ => hk36 _ _ hσ2))))))
theorem w_fX10_clear_36 {σ0 : zSt} : ∀ (n : Nat) (y0 : zSt) (y1 : Int32), zKeC σ0 y0 → zpc (fX10_clear_36 n y0 y1) (fun r => zKeC σ0 (r)) := by
  intro n
  induction n with
  | zero => intro y0 y1 h; exact zpc_none
  | succ n ih => intro y0 y1 h; exact w_fX10_clear_36_body ih h
theorem w_fX10_clear {σ0 : zSt} {σ : zSt} (h : zKeC σ0 σ) : zpc (fX10_clear σ) (fun r => zKeC σ0 (r)) := by
  unfold fX10_clear
  exact zpc_ck (zpc_bv (fun v4 _ => zpc_bu (w_fJ7_fill_53178_k32 h) (fun σ5 hσ5 => zpc_ck (zpc_bs (zKeC.wi hσ5 (by decide)) (fun σ6 hσ6 => zpc_ck (zpc_bs (zKeC.wi hσ6 (by decide)) (fun σ7 hσ7 => w_fX10_clear_36 _ _ _ hσ7)))))))
theorem w_fX10_keep {σ0 : zSt} {σ : zSt} (h : zKeC σ0 σ) : zpc (fX10_keep σ) (fun r => zKeC σ0 (r)) := by
  unfold fX10_keep
  exact zpc_ck (zpc_bs (zKeC.ci h (by decide)) (fun σ1 hσ1 => zpc_some hσ1))
theorem w_fX10_bringBack {σ0 : zSt} {σ : zSt} (h : zKeC σ0 σ) : zpc (fX10_bringBack σ) (fun r => zKeC σ0 (r)) := by
  unfold fX10_bringBack
  exact zpc_ck (zpc_bs (zKeC.ci h (by decide)) (fun σ1 hσ1 => zpc_some hσ1))
theorem w_fX10_has_37 {σ0 : zSt} {σ : zSt} {s0 : Int32} (h : zKeC σ0 σ) : zpc (fX10_has_37 σ s0) (fun r => zKeC σ0 (r.1)) := by
  unfold fX10_has_37
  exact zpc_ck (zpc_some h)
theorem w_fX10_has_36 {σ0 : zSt} {σ : zSt} (h : zKeC σ0 σ) : zpc (fX10_has_36 σ) (fun r => zKeC σ0 (r.1)) := by
  unfold fX10_has_36
  exact w_fX10_has_37 h
theorem w_fX10_has_32 {σ0 : zSt} {σ : zSt} (h : zKeC σ0 σ) : zpc (fX10_has_32 σ) (fun r => zKeC σ0 (r.1)) := by
  unfold fX10_has_32
  exact w_fX10_has_37 h
theorem w_fX10_has_10 {σ0 : zSt} {σ : zSt} {x0 : Int32} (h : zKeC σ0 σ) : zpc (fX10_has_10 σ x0) (fun r => zKeC σ0 (r.1)) := by
  unfold fX10_has_10
  exact zpc_if (fun _ => w_fX10_has_36 h) (fun _ => zpc_if (fun _ => w_fX10_has_36 h) (fun _ => zpc_if (fun _ => w_fX10_has_36 h) (fun _ => w_fX10_has_32 h)))
theorem w_fX10_has {σ0 : zSt} {σ : zSt} {x0 : Int32} (h : zKeC σ0 σ) : zpc (fX10_has σ x0) (fun r => zKeC σ0 (r.1)) := by
  unfold fX10_has
  exact zpc_if (fun _ => w_fX10_has_10 h) (fun _ => zpc_if (fun _ => w_fX10_has_32 h) (fun _ => w_fX10_has_10 h))
theorem w_fX11_clearAll {σ0 : zSt} {σ : zSt} (h : zKeC σ0 σ) : zpc (fX11_clearAll σ) (fun r => zKeC σ0 (r)) := by
  unfold fX11_clearAll
  exact zpc_bu (w_fX2_clearPages h) (fun σ1 hσ1 => zpc_bu (w_fX9_clear hσ1) (fun σ2 hσ2 => zpc_bu (w_fX7_clear hσ2) (fun σ3 hσ3 => zpc_bu (w_fX10_clear hσ3) (fun σ4 hσ4 => zpc_bu (w_fX4_clear hσ4) (fun σ5 hσ5 => zpc_bu (w_fX5_clear hσ5) (fun σ6 hσ6 => zpc_some hσ6))))))
theorem w_fX11_load_28 {σ0 : zSt} {σ : zSt} {x1 : Int32} (h : zKeC σ0 σ) : zpc (fX11_load_28 σ x1) (fun r => zKeC σ0 (r.1)) := by
  unfold fX11_load_28
  exact zpc_some h
theorem w_fX11_endLine_62 {σ0 : zSt} {σ : zSt} (h : zKeC σ0 σ) : zpc (fX11_endLine_62 σ) (fun r => zKeC σ0 (r)) := by
  unfold fX11_endLine_62
  exact zpc_some h
theorem w_fX11_endLine_26 {σ0 : zSt} {σ : zSt} (h : zKeC σ0 σ) : zpc (fX11_endLine_26 σ) (fun r => zKeC σ0 (r)) := by
  unfold fX11_endLine_26
  exact zpc_bi (w_fX9_goesToNextLine h) (fun σ1 v2 hσ1 => zpc_if (fun _ => w_fX11_endLine_62 hσ1) (fun _ => zpc_bu (w_fX0_countPicture hσ1) (fun σ3 hσ3 => zpc_bll (w_fX0_count hσ3) (fun σ4 v5 hσ4 => zpc_bu (w_fX1_carryOutPlans hσ4) (fun σ6 hσ6 => w_fX11_endLine_62 hσ6)))))
theorem w_fX11_endLine {σ0 : zSt} {σ : zSt} (h : zKeC σ0 σ) : zpc (fX11_endLine σ) (fun r => zKeC σ0 (r)) := by
  unfold fX11_endLine
  exact zpc_bi (w_fX9_held h) (fun σ7 v8 hσ7 => zpc_bi (w_fX9_height hσ7) (fun σ9 v10 hσ9 => zpc_if (fun _ => w_fX11_endLine_26 hσ9) (fun _ => zpc_bu (w_fX3_draw hσ9) (fun σ11 hσ11 => w_fX11_endLine_26 hσ11))))
theorem w_fX11_run_135 {σ0 : zSt} {σ : zSt} {x5 : Int32} (h : zKeC σ0 σ) : zpc (fX11_run_135 σ x5) (fun r => zKeC σ0 (r.1)) := by
  unfold fX11_run_135
  exact zpc_some h
theorem w_fX11_run_120 {σ0 : zSt} {k15 : zSt → Int32 → Int64 → Int32 → Option (zSt × Int32)} (hk15 : ∀ (y0 : zSt) (y1 : Int32) (y2 : Int64) (y3 : Int32), zKeC σ0 y0 → zpc (k15 y0 y1 y2 y3) (fun r => zKeC σ0 (r.1))) {σ : zSt} {x1 : Int32} {x3 : Int64} {x5 : Int32} {x7 : Int32} (h : zKeC σ0 σ) : zpc (fX11_run_120 k15 σ x1 x3 x5 x7) (fun r => zKeC σ0 (r.1)) := by
  unfold fX11_run_120
  exact zpc_bu (w_fX0_pass h) (fun σ1 hσ1 => zpc_bv (fun v2 _ => hk15 _ _ _ _ hσ1))
theorem w_fX11_run_104 {σ0 : zSt} {k15 : zSt → Int32 → Int64 → Int32 → Option (zSt × Int32)} (hk15 : ∀ (y0 : zSt) (y1 : Int32) (y2 : Int64) (y3 : Int32), zKeC σ0 y0 → zpc (k15 y0 y1 y2 y3) (fun r => zKeC σ0 (r.1))) {σ : zSt} {x1 : Int32} {x3 : Int64} {x5 : Int32} {x7 : Int32} (h : zKeC σ0 σ) : zpc (fX11_run_104 k15 σ x1 x3 x5 x7) (fun r => zKeC σ0 (r.1)) := by
  unfold fX11_run_104
  exact zpc_bi (w_fX9_passes h) (fun σ3 v4 hσ3 => zpc_if (fun _ => w_fX11_run_120 hk15 hσ3) (fun _ => zpc_bu (w_fX11_endLine hσ3) (fun σ5 hσ5 => w_fX11_run_120 hk15 hσ5)))
theorem w_fX11_run_65 {σ0 : zSt} {k15 : zSt → Int32 → Int64 → Int32 → Option (zSt × Int32)} (hk15 : ∀ (y0 : zSt) (y1 : Int32) (y2 : Int64) (y3 : Int32), zKeC σ0 y0 → zpc (k15 y0 y1 y2 y3) (fun r => zKeC σ0 (r.1))) {σ : zSt} {x1 : Int32} {x3 : Int64} {x5 : Int32} {x6 : Int32} (h : zKeC σ0 σ) : zpc (fX11_run_65 k15 σ x1 x3 x5 x6) (fun r => zKeC σ0 (r.1)) := by
  unfold fX11_run_65
  exact zpc_bu (w_fX1_noteStep h) (fun σ6 hσ6 => zpc_bi (w_fX9_asks hσ6) (fun σ7 v8 hσ7 => zpc_bi (w_fX5_answerCalls hσ7) (fun σ9 v10 hσ9 => zpc_if (fun _ => zpc_bi (w_fX5_carryOn hσ9) (fun σ11 v12 hσ11 => w_fX11_run_104 hk15 hσ11)) (fun _ => w_fX11_run_104 hk15 hσ9))))
theorem w_fX11_run_15_body {σ0 : zSt} {k15 : zSt → Int32 → Int64 → Int32 → Option (zSt × Int32)} (hk15 : ∀ (y0 : zSt) (y1 : Int32) (y2 : Int64) (y3 : Int32), zKeC σ0 y0 → zpc (k15 y0 y1 y2 y3) (fun r => zKeC σ0 (r.1))) {σ : zSt} {x1 : Int32} {x3 : Int64} {x5 : Int32} (h : zKeC σ0 σ) : zpc (fX11_run_15_body k15 σ x1 x3 x5) (fun r => zKeC σ0 (r.1)) := by
  unfold fX11_run_15_body
  exact zpc_if (fun _ => w_fX11_run_135 h) (fun _ => zpc_bll (w_fX0_count h) (fun σ13 v14 hσ13 => zpc_if (fun _ => w_fX11_run_135 hσ13) (fun _ => zpc_bi (w_fX5_value hσ13) (fun σ15 v16 hσ15 => zpc_if (fun _ => w_fX11_run_65 hk15 hσ15) (fun _ => zpc_bi (w_fX1_isStop hσ15) (fun σ17 v18 hσ17 => zpc_if (fun _ => w_fX11_run_65 hk15 hσ17) (fun _ => w_fX11_run_135 hσ17)))))))
theorem w_fX11_run_15 {σ0 : zSt} : ∀ (n : Nat) (y0 : zSt) (y1 : Int32) (y2 : Int64) (y3 : Int32), zKeC σ0 y0 → zpc (fX11_run_15 n y0 y1 y2 y3) (fun r => zKeC σ0 (r.1)) := by
  intro n
  induction n with
  | zero => intro y0 y1 y2 y3 h; exact zpc_none
  | succ n ih => intro y0 y1 y2 y3 h; exact w_fX11_run_15_body ih h
theorem w_fX11_run {σ0 : zSt} {σ : zSt} {x1 : Int32} {x2 : Int32} (h : zKeC σ0 σ) : zpc (fX11_run σ x1 x2) (fun r => zKeC σ0 (r.1)) := by
  unfold fX11_run
  exact zpc_bll (w_fX0_count h) (fun σ19 v20 hσ19 => zpc_bv (fun v21 _ => w_fX11_run_15 _ _ _ _ _ hσ19))
theorem w_fX11_reset {σ0 : zSt} {σ : zSt} (h : zKeC σ0 σ) : zpc (fX11_reset σ) (fun r => zKeC σ0 (r)) := by
  unfold fX11_reset
  exact zpc_bu (w_fX11_clearAll h) (fun σ1 hσ1 => zpc_some hσ1)
theorem w_fX11_pause_26 {σ0 : zSt} {σ : zSt} {s0 : Int32} (h : zKeC σ0 σ) : zpc (fX11_pause_26 σ s0) (fun r => zKeC σ0 (r.1)) := by
  unfold fX11_pause_26
  exact zpc_ck (zpc_some h)
theorem w_fX11_pause_14 {σ0 : zSt} {σ : zSt} (h : zKeC σ0 σ) : zpc (fX11_pause_14 σ) (fun r => zKeC σ0 (r.1)) := by
  unfold fX11_pause_14
  exact zpc_if (fun _ => w_fX11_pause_26 h) (fun _ => w_fX11_pause_26 h)
theorem w_fX11_pause {σ0 : zSt} {σ : zSt} (h : zKeC σ0 σ) : zpc (fX11_pause σ) (fun r => zKeC σ0 (r.1)) := by
  unfold fX11_pause
  exact zpc_if (fun _ => zpc_bu (w_fX5_askForPause h) (fun σ1 hσ1 => w_fX11_pause_14 hσ1)) (fun _ => w_fX11_pause_14 h)
theorem w_fX11_start {σ0 : zSt} {σ : zSt} {x1 : Int32} (h : zKeC σ0 σ) : zpc (fX11_start σ x1) (fun r => zKeC σ0 (r)) := by
  unfold fX11_start
  exact zpc_bu (w_fX4_holdStart h) (fun σ1 hσ1 => zpc_some hσ1)
theorem w_fX11_tell {σ0 : zSt} {σ : zSt} {x1 : Int32} (h : zKeC σ0 σ) : zpc (fX11_tell σ x1) (fun r => zKeC σ0 (r.1)) := by
  unfold fX11_tell
  exact zpc_bi (w_fX8_write h) (fun σ1 v2 hσ1 => zpc_some hσ1)
theorem w_fX11_save {σ0 : zSt} {σ : zSt} (h : zKeC σ0 σ) : zpc (fX11_save σ) (fun r => zKeC σ0 (r)) := by
  unfold fX11_save
  exact zpc_bu (w_fX2_keep h) (fun σ1 hσ1 => zpc_bu (w_fX9_keep hσ1) (fun σ2 hσ2 => zpc_bu (w_fX3_keep hσ2) (fun σ3 hσ3 => zpc_bu (w_fX7_keep hσ3) (fun σ4 hσ4 => zpc_bu (w_fX10_keep hσ4) (fun σ5 hσ5 => zpc_bu (w_fX4_keep hσ5) (fun σ6 hσ6 => zpc_bu (w_fX5_keep hσ6) (fun σ7 hσ7 => zpc_bu (w_fX0_keep hσ7) (fun σ8 hσ8 => zpc_bu (w_fX1_keep hσ8) (fun σ9 hσ9 => zpc_ck (zpc_bs (zKeC.wi hσ9 (by decide)) (fun σ10 hσ10 => zpc_some hσ10)))))))))))
theorem w_fX11_peek {σ0 : zSt} {σ : zSt} {x1 : Int32} (h : zKeC σ0 σ) : zpc (fX11_peek σ x1) (fun r => zKeC σ0 (r.1)) := by
  unfold fX11_peek
  exact zpc_bi (w_fX2_read h) (fun σ1 v2 hσ1 => zpc_some hσ1)
theorem w_fX11_poke {σ0 : zSt} {σ : zSt} {x1 : Int32} {x2 : Int32} (h : zKeC σ0 σ) : zpc (fX11_poke σ x1 x2) (fun r => zKeC σ0 (r)) := by
  unfold fX11_poke
  exact zpc_bu (w_fX2_write h) (fun σ1 hσ1 => zpc_some hσ1)
theorem w_fX11_in {σ0 : zSt} {σ : zSt} {x1 : Int32} (h : zKeC σ0 σ) : zpc (fX11_in σ x1) (fun r => zKeC σ0 (r.1)) := by
  unfold fX11_in
  exact zpc_bi (w_fX4_read h) (fun σ1 v2 hσ1 => zpc_some hσ1)
theorem w_fX11_out {σ0 : zSt} {σ : zSt} {x1 : Int32} {x2 : Int32} (h : zKeC σ0 σ) : zpc (fX11_out σ x1 x2) (fun r => zKeC σ0 (r)) := by
  unfold fX11_out
  exact zpc_bu (w_fX4_write h) (fun σ1 hσ1 => zpc_some hσ1)
theorem w_fX11_wipe {σ0 : zSt} {σ : zSt} (h : zKeC σ0 σ) : zpc (fX11_wipe σ) (fun r => zKeC σ0 (r)) := by
  unfold fX11_wipe
  exact zpc_bu (w_fX2_clearBattery h) (fun σ1 hσ1 => zpc_some hσ1)
theorem w_fX11_video {σ0 : zSt} {σ : zSt} {x1 : Int32} (h : zKeC σ0 σ) : zpc (fX11_video σ x1) (fun r => zKeC σ0 (r.1)) := by
  unfold fX11_video
  exact zpc_bll (w_fX9_eightFrom h) (fun σ1 v2 hσ1 => zpc_some hσ1)
theorem w_fX11_trace {σ0 : zSt} {σ : zSt} {x1 : Int32} (h : zKeC σ0 σ) : zpc (fX11_trace σ x1) (fun r => zKeC σ0 (r.1)) := by
  unfold fX11_trace
  exact zpc_bi (w_fX1_stepBack h) (fun σ1 v2 hσ1 => zpc_some hσ1)
theorem w_fX11_feed_11 {σ0 : zSt} {σ : zSt} (h : zKeC σ0 σ) : zpc (fX11_feed_11 σ) (fun r => zKeC σ0 (zRis r)) := by
  unfold fX11_feed_11
  exact zpc_some h
theorem w_fX11_grow_19 {σ0 : zSt} {σ : zSt} (h : zKeC σ0 σ) : zpc (fX11_grow_19 σ) (fun r => zKeC σ0 (zRis r)) := by
  unfold fX11_grow_19
  exact zpc_some h
theorem w_fX11_patch_18 {σ0 : zSt} {σ : zSt} (h : zKeC σ0 σ) : zpc (fX11_patch_18 σ) (fun r => zKeC σ0 (zRus r)) := by
  unfold fX11_patch_18
  exact zpc_some h
theorem w_fX11_card_10 {σ0 : zSt} {σ : zSt} (h : zKeC σ0 σ) : zpc (fX11_card_10 σ) (fun r => zKeC σ0 (zRis r)) := by
  unfold fX11_card_10
  exact zpc_some h
theorem w_fX11_card {σ0 : zSt} {σ : zSt} {x1 : Int32} (h : zKeC σ0 σ) : zpc (fX11_card σ x1) (fun r => zKeC σ0 (zRis r)) := by
  unfold fX11_card
  exact zpc_if (fun _ => w_fX11_card_10 h) (fun _ => zpc_if (fun _ => zpc_bi (w_fX2_aboutCard h) (fun σ1 v2 hσ1 => zpc_some hσ1)) (fun _ => w_fX11_card_10 h))
theorem w_fX11_step_12 {σ0 : zSt} {σ : zSt} (h : zKeC σ0 σ) : zpc (fX11_step_12 σ) (fun r => zKeC σ0 (zRis r)) := by
  unfold fX11_step_12
  exact zpc_some h
theorem w_fX11_step {σ0 : zSt} {σ : zSt} {x1 : Int32} (h : zKeC σ0 σ) : zpc (fX11_step σ x1) (fun r => zKeC σ0 (zRis r)) := by
  unfold fX11_step
  exact zpc_if (fun _ => w_fX11_step_12 h) (fun _ => zpc_if (fun _ => zpc_bi (w_fX11_run h) (fun σ1 v2 hσ1 => zpc_some hσ1)) (fun _ => w_fX11_step_12 h))
theorem w_fX11_picture_10 {σ0 : zSt} {σ : zSt} (h : zKeC σ0 σ) : zpc (fX11_picture_10 σ) (fun r => zKeC σ0 (zRis r)) := by
  unfold fX11_picture_10
  exact zpc_some h
theorem w_fX11_picture {σ0 : zSt} {σ : zSt} {x1 : Int32} (h : zKeC σ0 σ) : zpc (fX11_picture σ x1) (fun r => zKeC σ0 (zRis r)) := by
  unfold fX11_picture
  exact zpc_if (fun _ => w_fX11_picture_10 h) (fun _ => zpc_if (fun _ => zpc_bi (w_fX11_run h) (fun σ1 v2 hσ1 => zpc_some hσ1)) (fun _ => w_fX11_picture_10 h))
theorem w_fX11_press {σ0 : zSt} {σ : zSt} {x1 : Int32} {x2 : Int32} (h : zKeC σ0 σ) : zpc (fX11_press σ x1 x2) (fun r => zKeC σ0 (zRus r)) := by
  unfold fX11_press
  exact zpc_bi (w_fX4_canPress h) (fun σ1 v2 hσ1 => zpc_if (fun _ => zpc_some hσ1) (fun _ => zpc_bu (w_fX4_holdButtons hσ1) (fun σ3 hσ3 => zpc_some hσ3)))
theorem w_fX11_line_9 {σ0 : zSt} {σ : zSt} (h : zKeC σ0 σ) : zpc (fX11_line_9 σ) (fun r => zKeC σ0 (zRus r)) := by
  unfold fX11_line_9
  exact zpc_some h
theorem w_fX11_line {σ0 : zSt} {σ : zSt} {x1 : Int32} {x2 : Int32} (h : zKeC σ0 σ) : zpc (fX11_line σ x1 x2) (fun r => zKeC σ0 (zRus r)) := by
  unfold fX11_line
  exact zpc_if (fun _ => w_fX11_line_9 h) (fun _ => zpc_if (fun _ => zpc_bu (w_fX4_moveLine h) (fun σ1 hσ1 => zpc_some hσ1)) (fun _ => w_fX11_line_9 h))
theorem w_fX11_plan_19 {σ0 : zSt} {σ : zSt} (h : zKeC σ0 σ) : zpc (fX11_plan_19 σ) (fun r => zKeC σ0 (zRis r)) := by
  unfold fX11_plan_19
  exact zpc_some h
theorem w_fX11_plan {σ0 : zSt} {σ : zSt} {x1 : Int32} {x2 : Int32} {x3 : Int32} (h : zKeC σ0 σ) : zpc (fX11_plan σ x1 x2 x3) (fun r => zKeC σ0 (zRis r)) := by
  unfold fX11_plan
  exact zpc_bi (w_fX1_leastPlan h) (fun σ1 v2 hσ1 => zpc_if (fun _ => w_fX11_plan_19 hσ1) (fun _ => zpc_bi (w_fX4_canPress hσ1) (fun σ3 v4 hσ3 => zpc_if (fun _ => w_fX11_plan_19 hσ3) (fun _ => zpc_bi (w_fX1_plansWaiting hσ3) (fun σ5 v6 hσ5 => zpc_if (fun _ => zpc_bi (w_fX1_addPlan hσ5) (fun σ7 v8 hσ7 => zpc_some hσ7)) (fun _ => zpc_some hσ5))))))
theorem w_fX11_text_15 {σ0 : zSt} {σ : zSt} (h : zKeC σ0 σ) : zpc (fX11_text_15 σ) (fun r => zKeC σ0 (zRls r)) := by
  unfold fX11_text_15
  exact zpc_some h
theorem w_fX11_text {σ0 : zSt} {σ : zSt} {x1 : Int32} (h : zKeC σ0 σ) : zpc (fX11_text σ x1) (fun r => zKeC σ0 (zRls r)) := by
  unfold fX11_text
  exact zpc_if (fun _ => w_fX11_text_15 h) (fun _ => zpc_if (fun _ => zpc_bll (w_fX8_eightFrom h) (fun σ1 v2 hσ1 => zpc_some hσ1)) (fun _ => w_fX11_text_15 h))
theorem w_fX11_stop_10 {σ0 : zSt} {σ : zSt} (h : zKeC σ0 σ) : zpc (fX11_stop_10 σ) (fun r => zKeC σ0 (zRis r)) := by
  unfold fX11_stop_10
  exact zpc_some h
theorem w_fX11_stop {σ0 : zSt} {σ : zSt} {x1 : Int32} {x2 : Int32} (h : zKeC σ0 σ) : zpc (fX11_stop σ x1 x2) (fun r => zKeC σ0 (zRis r)) := by
  unfold fX11_stop
  exact zpc_if (fun _ => w_fX11_stop_10 h) (fun _ => zpc_if (fun _ => zpc_bi (w_fX1_stopsBeside h) (fun σ1 v2 hσ1 => zpc_if (fun _ => zpc_bi (w_fX1_changeStop hσ1) (fun σ3 v4 hσ3 => zpc_some hσ3)) (fun _ => zpc_some hσ1))) (fun _ => w_fX11_stop_10 h))
theorem w_fX11_restore {σ0 : zSt} {σ : zSt} (h : zKeC σ0 σ) : zpc (fX11_restore σ) (fun r => zKeC σ0 (zRus r)) := by
  unfold fX11_restore
  exact zpc_if (fun _ => zpc_some h) (fun _ => zpc_bu (w_fX2_bringBack h) (fun σ1 hσ1 => zpc_bu (w_fX9_bringBack hσ1) (fun σ2 hσ2 => zpc_bu (w_fX3_bringBack hσ2) (fun σ3 hσ3 => zpc_bu (w_fX7_bringBack hσ3) (fun σ4 hσ4 => zpc_bu (w_fX10_bringBack hσ4) (fun σ5 hσ5 => zpc_bu (w_fX4_bringBack hσ5) (fun σ6 hσ6 => zpc_bu (w_fX5_bringBack hσ6) (fun σ7 hσ7 => zpc_bu (w_fX0_bringBack hσ7) (fun σ8 hσ8 => zpc_bu (w_fX1_bringBack hσ8) (fun σ9 hσ9 => zpc_some hσ9))))))))))
theorem w_fX11_register_10 {σ0 : zSt} {σ : zSt} (h : zKeC σ0 σ) : zpc (fX11_register_10 σ) (fun r => zKeC σ0 (zRis r)) := by
  unfold fX11_register_10
  exact zpc_some h
theorem w_fX11_register {σ0 : zSt} {σ : zSt} {x1 : Int32} (h : zKeC σ0 σ) : zpc (fX11_register σ x1) (fun r => zKeC σ0 (zRis r)) := by
  unfold fX11_register
  exact zpc_if (fun _ => w_fX11_register_10 h) (fun _ => zpc_if (fun _ => zpc_bi (w_fX5_value h) (fun σ1 v2 hσ1 => zpc_some hσ1)) (fun _ => w_fX11_register_10 h))
theorem w_fX11_set_10 {σ0 : zSt} {σ : zSt} (h : zKeC σ0 σ) : zpc (fX11_set_10 σ) (fun r => zKeC σ0 (zRus r)) := by
  unfold fX11_set_10
  exact zpc_some h
theorem w_fX11_set {σ0 : zSt} {σ : zSt} {x1 : Int32} {x2 : Int32} (h : zKeC σ0 σ) : zpc (fX11_set σ x1 x2) (fun r => zKeC σ0 (zRus r)) := by
  unfold fX11_set
  exact zpc_if (fun _ => w_fX11_set_10 h) (fun _ => zpc_if (fun _ => zpc_bu (w_fX5_change h) (fun σ1 hσ1 => zpc_some hσ1)) (fun _ => w_fX11_set_10 h))
theorem w_fX11_battery_11 {σ0 : zSt} {σ : zSt} (h : zKeC σ0 σ) : zpc (fX11_battery_11 σ) (fun r => zKeC σ0 (zRis r)) := by
  unfold fX11_battery_11
  exact zpc_some h
theorem w_fX11_battery {σ0 : zSt} {σ : zSt} {x1 : Int32} (h : zKeC σ0 σ) : zpc (fX11_battery σ x1) (fun r => zKeC σ0 (zRis r)) := by
  unfold fX11_battery
  exact zpc_if (fun _ => w_fX11_battery_11 h) (fun _ => zpc_if (fun _ => zpc_bi (w_fX2_batteryByte h) (fun σ1 v2 hσ1 => zpc_some hσ1)) (fun _ => w_fX11_battery_11 h))
theorem w_fX11_chip {σ0 : zSt} {σ : zSt} {x1 : Int32} (h : zKeC σ0 σ) : zpc (fX11_chip σ x1) (fun r => zKeC σ0 (zRis r)) := by
  unfold fX11_chip
  exact zpc_bi (w_fX9_has h) (fun σ1 v2 hσ1 => zpc_if (fun _ => zpc_some hσ1) (fun _ => zpc_bi (w_fX9_value hσ1) (fun σ3 v4 hσ3 => zpc_some hσ3)))
theorem w_fX11_dot_30 {σ0 : zSt} {σ : zSt} (h : zKeC σ0 σ) : zpc (fX11_dot_30 σ) (fun r => zKeC σ0 (zRis r)) := by
  unfold fX11_dot_30
  exact zpc_some h
theorem w_fX11_dot {σ0 : zSt} {σ : zSt} {x1 : Int32} {x2 : Int32} (h : zKeC σ0 σ) : zpc (fX11_dot σ x1 x2) (fun r => zKeC σ0 (zRis r)) := by
  unfold fX11_dot
  exact zpc_if (fun _ => w_fX11_dot_30 h) (fun _ => zpc_bi (w_fX3_width h) (fun σ1 v2 hσ1 => zpc_if (fun _ => w_fX11_dot_30 hσ1) (fun _ => zpc_if (fun _ => w_fX11_dot_30 hσ1) (fun _ => zpc_bi (w_fX3_height hσ1) (fun σ3 v4 hσ3 => zpc_if (fun _ => zpc_bi (w_fX3_dotAt hσ3) (fun σ5 v6 hσ5 => zpc_some hσ5)) (fun _ => w_fX11_dot_30 hσ3))))))
theorem w_fX11_row_15 {σ0 : zSt} {σ : zSt} (h : zKeC σ0 σ) : zpc (fX11_row_15 σ) (fun r => zKeC σ0 (zRis r)) := by
  unfold fX11_row_15
  exact zpc_some h
theorem w_fX11_row {σ0 : zSt} {σ : zSt} {x1 : Int32} (h : zKeC σ0 σ) : zpc (fX11_row σ x1) (fun r => zKeC σ0 (zRis r)) := by
  unfold fX11_row
  exact zpc_if (fun _ => w_fX11_row_15 h) (fun _ => zpc_bi (w_fX3_height h) (fun σ1 v2 hσ1 => zpc_if (fun _ => zpc_bi (w_fX3_sumOfLine hσ1) (fun σ3 v4 hσ3 => zpc_some hσ3)) (fun _ => w_fX11_row_15 hσ1)))
theorem w_fX11_hear {σ0 : zSt} {σ : zSt} (h : zKeC σ0 σ) : zpc (fX11_hear σ) (fun r => zKeC σ0 (zRls r)) := by
  unfold fX11_hear
  exact zpc_bi (w_fX6_size_k11 h) (fun σ1 v2 hσ1 => zpc_if (fun _ => zpc_some hσ1) (fun _ => zpc_bll (w_fX6_takeFirst_k11 hσ1) (fun σ3 v4 hσ3 => zpc_some hσ3)))
theorem w_fX11_mix {σ0 : zSt} {σ : zSt} (h : zKeC σ0 σ) : zpc (fX11_mix σ) (fun r => zKeC σ0 (zRls r)) := by
  unfold fX11_mix
  exact zpc_bi (w_fX6_size_k12 h) (fun σ1 v2 hσ1 => zpc_if (fun _ => zpc_some hσ1) (fun _ => zpc_bll (w_fX6_takeFirst_k12 hσ1) (fun σ3 v4 hσ3 => zpc_some hσ3)))
theorem w_fX11_wave {σ0 : zSt} {σ : zSt} {x1 : Int32} (h : zKeC σ0 σ) : zpc (fX11_wave σ x1) (fun r => zKeC σ0 (zRis r)) := by
  unfold fX11_wave
  exact zpc_bi (w_fX10_has h) (fun σ1 v2 hσ1 => zpc_if (fun _ => zpc_some hσ1) (fun _ => zpc_bi (w_fX10_value hσ1) (fun σ3 v4 hσ3 => zpc_some hσ3)))
theorem w_fX11_sound_10 {σ0 : zSt} {σ : zSt} (h : zKeC σ0 σ) : zpc (fX11_sound_10 σ) (fun r => zKeC σ0 (zRis r)) := by
  unfold fX11_sound_10
  exact zpc_some h
theorem w_fX11_sound {σ0 : zSt} {σ : zSt} {x1 : Int32} (h : zKeC σ0 σ) : zpc (fX11_sound σ x1) (fun r => zKeC σ0 (zRis r)) := by
  unfold fX11_sound
  exact zpc_if (fun _ => w_fX11_sound_10 h) (fun _ => zpc_if (fun _ => zpc_bi (w_fX7_value h) (fun σ1 v2 hσ1 => zpc_some hσ1)) (fun _ => w_fX11_sound_10 h))
theorem w_fX11_look_10 {σ0 : zSt} {σ : zSt} (h : zKeC σ0 σ) : zpc (fX11_look_10 σ) (fun r => zKeC σ0 (zRls r)) := by
  unfold fX11_look_10
  exact zpc_some h
theorem w_fX11_look_193 {σ0 : zSt} {σ : zSt} {x1 : Int32} (h : zKeC σ0 σ) : zpc (fX11_look_193 σ x1) (fun r => zKeC σ0 (zRls r)) := by
  unfold fX11_look_193
  exact zpc_bi (w_fX2_page h) (fun σ1 v2 hσ1 => zpc_some hσ1)
theorem w_fX11_look_250 {σ0 : zSt} {σ : zSt} {s0 : Int64} (h : zKeC σ0 σ) : zpc (fX11_look_250 σ s0) (fun r => zKeC σ0 (zRls r)) := by
  unfold fX11_look_250
  exact zpc_some h
theorem w_fX11_look {σ0 : zSt} {σ : zSt} {x1 : Int32} (h : zKeC σ0 σ) : zpc (fX11_look σ x1) (fun r => zKeC σ0 (zRls r)) := by
  unfold fX11_look
  exact zpc_if (fun _ => w_fX11_look_10 h) (fun _ => zpc_if (fun _ => zpc_if (fun _ => zpc_bll (w_fX0_count h) (fun σ3 v4 hσ3 => zpc_some hσ3)) (fun _ => zpc_if (fun _ => zpc_bll (w_fX0_count h) (fun σ5 v6 hσ5 => zpc_some hσ5)) (fun _ => zpc_if (fun _ => zpc_bll (w_fX0_count h) (fun σ7 v8 hσ7 => zpc_some hσ7)) (fun _ => zpc_if (fun _ => zpc_bi (w_fX6_size_k11 h) (fun σ9 v10 hσ9 => zpc_some hσ9)) (fun _ => zpc_if (fun _ => zpc_bll (w_fX0_count h) (fun σ11 v12 hσ11 => zpc_some hσ11)) (fun _ => zpc_if (fun _ => zpc_some h) (fun _ => zpc_if (fun _ => zpc_bi (w_fX1_stopCount h) (fun σ13 v14 hσ13 => zpc_some hσ13)) (fun _ => zpc_if (fun _ => zpc_bi (w_fX2_cardSize h) (fun σ15 v16 hσ15 => zpc_some hσ15)) (fun _ => zpc_if (fun _ => zpc_bi (w_fX2_page h) (fun σ17 v18 hσ17 => zpc_some hσ17)) (fun _ => zpc_if (fun _ => w_fX11_look_193 h) (fun _ => zpc_if (fun _ => w_fX11_look_193 h) (fun _ => zpc_if (fun _ => w_fX11_look_193 h) (fun _ => zpc_if (fun _ => zpc_bi (w_fX5_value h) (fun σ19 v20 hσ19 => zpc_some hσ19)) (fun _ => zpc_if (fun _ => zpc_bi (w_fX4_value h) (fun σ21 v22 hσ21 => zpc_some hσ21)) (fun _ => zpc_if (fun _ => zpc_bi (w_fX4_value h) (fun σ23 v24 hσ23 => zpc_some hσ23)) (fun _ => zpc_if (fun _ => zpc_if (fun _ => w_fX11_look_250 h) (fun _ => w_fX11_look_250 h)) (fun _ => zpc_if (fun _ => zpc_bi (w_fX1_plansWaiting h) (fun σ25 v26 hσ25 => zpc_some hσ25)) (fun _ => zpc_if (fun _ => zpc_bi (w_fX6_size_k12 h) (fun σ27 v28 hσ27 => zpc_some hσ27)) (fun _ => zpc_some h))))))))))))))))))) (fun _ => w_fX11_look_10 h))
