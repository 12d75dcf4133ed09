theorem fk_fX12_ofBank {σ0 : zSt} {σ : zSt} {x1 : Int32} {x2 : Int32} (h : (zQ [3, 5, 6, 7, 8, 9, 21, 22, 23, 24, 25] [(0, 31, 33)] [4, 10, 11] [(0, 30, 30)]) σ0 σ) : zpc (fX12_ofBank σ x1 x2) (fun r => (zQ [3, 5, 6, 7, 8, 9, 21, 22, 23, 24, 25] [(0, 31, 33)] [4, 10, 11] [(0, 30, 30)]) σ0 (r.1)) := by
  unfold fX12_ofBank
  exact zpc_ck (zpc_ck (zpc_ck (zpc_some h)))
theorem fk_fX12_isBattery_38 {σ0 : zSt} {σ : zSt} {s0 : Int32} (h : (zQ [3, 5, 6, 7, 8, 9, 21, 22, 23, 24, 25] [(0, 31, 33)] [4, 10, 11] [(0, 30, 30)]) σ0 σ) : zpc (fX12_isBattery_38 σ s0) (fun r => (zQ [3, 5, 6, 7, 8, 9, 21, 22, 23, 24, 25] [(0, 31, 33)] [4, 10, 11] [(0, 30, 30)]) σ0 (r.1)) := by
  unfold fX12_isBattery_38
  exact zpc_ck (zpc_some h)
theorem fk_fX12_isBattery_37 {σ0 : zSt} {σ : zSt} (h : (zQ [3, 5, 6, 7, 8, 9, 21, 22, 23, 24, 25] [(0, 31, 33)] [4, 10, 11] [(0, 30, 30)]) σ0 σ) : zpc (fX12_isBattery_37 σ) (fun r => (zQ [3, 5, 6, 7, 8, 9, 21, 22, 23, 24, 25] [(0, 31, 33)] [4, 10, 11] [(0, 30, 30)]) σ0 (r.1)) := by
  unfold fX12_isBattery_37
  exact fk_fX12_isBattery_38 h
theorem fk_fX12_isBattery {σ0 : zSt} {σ : zSt} {x1 : Int32} (h : (zQ [3, 5, 6, 7, 8, 9, 21, 22, 23, 24, 25] [(0, 31, 33)] [4, 10, 11] [(0, 30, 30)]) σ0 σ) : zpc (fX12_isBattery σ x1) (fun r => (zQ [3, 5, 6, 7, 8, 9, 21, 22, 23, 24, 25] [(0, 31, 33)] [4, 10, 11] [(0, 30, 30)]) σ0 (r.1)) := by
  unfold fX12_isBattery
  exact zpc_if (fun _ => zpc_ck (zpc_if (fun _ => fk_fX12_isBattery_37 h) (fun _ => zpc_if (fun _ => fk_fX12_isBattery_37 h) (fun _ => zpc_if (fun _ => fk_fX12_isBattery_37 h) (fun _ => fk_fX12_isBattery_38 h))))) (fun _ => fk_fX12_isBattery_37 h)
theorem fk_fX12_batteryAt_23 {σ0 : zSt} {σ : zSt} {s0 : Int32} {s1 : Int32} (h : (zQ [3, 5, 6, 7, 8, 9, 21, 22, 23, 24, 25] [(0, 31, 33)] [4, 10, 11] [(0, 30, 30)]) σ0 σ) : zpc (fX12_batteryAt_23 σ s0 s1) (fun r => (zQ [3, 5, 6, 7, 8, 9, 21, 22, 23, 24, 25] [(0, 31, 33)] [4, 10, 11] [(0, 30, 30)]) σ0 (r.1)) := by
  unfold fX12_batteryAt_23
  exact zpc_some h
theorem fk_fX12_batteryAt {σ0 : zSt} {σ : zSt} {x1 : Int32} (h : (zQ [3, 5, 6, 7, 8, 9, 21, 22, 23, 24, 25] [(0, 31, 33)] [4, 10, 11] [(0, 30, 30)]) σ0 σ) : zpc (fX12_batteryAt σ x1) (fun r => (zQ [3, 5, 6, 7, 8, 9, 21, 22, 23, 24, 25] [(0, 31, 33)] [4, 10, 11] [(0, 30, 30)]) σ0 (r.1)) := by
  unfold fX12_batteryAt
  exact zpc_ck (zpc_if (fun _ => fk_fX12_batteryAt_23 h) (fun _ => fk_fX12_batteryAt_23 h))
theorem fk_fX12_read_80 {σ0 : zSt} {σ : zSt} {s0 : Int32} (h : (zQ [3, 5, 6, 7, 8, 9, 21, 22, 23, 24, 25] [(0, 31, 33)] [4, 10, 11] [(0, 30, 30)]) σ0 σ) : zpc (fX12_read_80 σ s0) (fun r => (zQ [3, 5, 6, 7, 8, 9, 21, 22, 23, 24, 25] [(0, 31, 33)] [4, 10, 11] [(0, 30, 30)]) σ0 (r.1)) := by
  unfold fX12_read_80
  exact zpc_some h
theorem fk_fX12_read_111 {σ0 : zSt} {σ : zSt} {x2 : Int32} {s0 : Int32} (h : (zQ [3, 5, 6, 7, 8, 9, 21, 22, 23, 24, 25] [(0, 31, 33)] [4, 10, 11] [(0, 30, 30)]) σ0 σ) : zpc (fX12_read_111 σ x2 s0) (fun r => (zQ [3, 5, 6, 7, 8, 9, 21, 22, 23, 24, 25] [(0, 31, 33)] [4, 10, 11] [(0, 30, 30)]) σ0 (r.1)) := by
  unfold fX12_read_111
  exact zpc_bi (fk_fX12_ofBank h) (fun σ1 v2 hσ1 => zpc_some hσ1)
theorem fk_fX12_read_138 {σ0 : zSt} {σ : zSt} {x2 : Int32} (h : (zQ [3, 5, 6, 7, 8, 9, 21, 22, 23, 24, 25] [(0, 31, 33)] [4, 10, 11] [(0, 30, 30)]) σ0 σ) : zpc (fX12_read_138 σ x2) (fun r => (zQ [3, 5, 6, 7, 8, 9, 21, 22, 23, 24, 25] [(0, 31, 33)] [4, 10, 11] [(0, 30, 30)]) σ0 (r.1)) := by
  unfold fX12_read_138
  exact zpc_ck (zpc_ck (zpc_bi (fk_fX12_ofBank h) (fun σ3 v4 hσ3 => zpc_some hσ3)))
theorem fk_fX12_read {σ0 : zSt} {σ : zSt} {x1 : Int32} (h : (zQ [3, 5, 6, 7, 8, 9, 21, 22, 23, 24, 25] [(0, 31, 33)] [4, 10, 11] [(0, 30, 30)]) σ0 σ) : zpc (fX12_read σ x1) (fun r => (zQ [3, 5, 6, 7, 8, 9, 21, 22, 23, 24, 25] [(0, 31, 33)] [4, 10, 11] [(0, 30, 30)]) σ0 (r.1)) := by
  unfold fX12_read
  exact zpc_bv (fun v5 _ => zpc_if (fun _ => zpc_bi (fk_fX12_isBattery h) (fun σ6 v7 hσ6 => zpc_if (fun _ => zpc_if (fun _ => zpc_if (fun _ => fk_fX12_read_80 hσ6) (fun _ => zpc_ck (fk_fX12_read_80 hσ6))) (fun _ => zpc_if (fun _ => zpc_if (fun _ => zpc_ck (fk_fX12_read_111 hσ6)) (fun _ => zpc_ck (fk_fX12_read_111 hσ6))) (fun _ => zpc_if (fun _ => zpc_if (fun _ => fk_fX12_read_138 hσ6) (fun _ => zpc_bi (fk_fX12_ofBank hσ6) (fun σ8 v9 hσ8 => zpc_some hσ8))) (fun _ => fk_fX12_read_138 hσ6)))) (fun _ => zpc_bi (fk_fX12_batteryAt hσ6) (fun σ10 v11 hσ10 => zpc_ck (zpc_some hσ10))))) (fun _ => zpc_ck (zpc_ck (zpc_some h))))
theorem fk_fX12_write_163 {σ0 : zSt} {σ : zSt} (h : (zQ [3, 5, 6, 7, 8, 9, 21, 22, 23, 24, 25] [(0, 31, 33)] [4, 10, 11] [(0, 30, 30)]) σ0 σ) : zpc (fX12_write_163 σ) (fun r => (zQ [3, 5, 6, 7, 8, 9, 21, 22, 23, 24, 25] [(0, 31, 33)] [4, 10, 11] [(0, 30, 30)]) σ0 (r)) := by
  unfold fX12_write_163
  exact zpc_some h
theorem fk_fX12_write_140 {σ0 : zSt} {σ : zSt} {x3 : Int32} {x4 : Int32} (h : (zQ [3, 5, 6, 7, 8, 9, 21, 22, 23, 24, 25] [(0, 31, 33)] [4, 10, 11] [(0, 30, 30)]) σ0 σ) : zpc (fX12_write_140 σ x3 x4) (fun r => (zQ [3, 5, 6, 7, 8, 9, 21, 22, 23, 24, 25] [(0, 31, 33)] [4, 10, 11] [(0, 30, 30)]) σ0 (r)) := by
  unfold fX12_write_140
  exact zpc_if (fun _ => zpc_if (fun _ => zpc_ck (zpc_bs (zQ.wi h rfl) (fun σ1 hσ1 => fk_fX12_write_163 hσ1))) (fun _ => fk_fX12_write_163 h)) (fun _ => fk_fX12_write_163 h)
theorem fk_fX12_write_103 {σ0 : zSt} {σ : zSt} {x3 : Int32} {x4 : Int32} (h : (zQ [3, 5, 6, 7, 8, 9, 21, 22, 23, 24, 25] [(0, 31, 33)] [4, 10, 11] [(0, 30, 30)]) σ0 σ) : zpc (fX12_write_103 σ x3 x4) (fun r => (zQ [3, 5, 6, 7, 8, 9, 21, 22, 23, 24, 25] [(0, 31, 33)] [4, 10, 11] [(0, 30, 30)]) σ0 (r)) := by
  unfold fX12_write_103
  exact zpc_if (fun _ => zpc_if (fun _ => fk_fX12_write_140 h) (fun _ => zpc_ck (zpc_if (fun _ => zpc_ck (zpc_ck (zpc_bs (zQ.wi h rfl) (fun σ2 hσ2 => fk_fX12_write_140 hσ2)))) (fun _ => fk_fX12_write_140 h)))) (fun _ => fk_fX12_write_140 h)
theorem fk_fX12_write_75 {σ0 : zSt} {σ : zSt} {x3 : Int32} {x4 : Int32} (h : (zQ [3, 5, 6, 7, 8, 9, 21, 22, 23, 24, 25] [(0, 31, 33)] [4, 10, 11] [(0, 30, 30)]) σ0 σ) : zpc (fX12_write_75 σ x3 x4) (fun r => (zQ [3, 5, 6, 7, 8, 9, 21, 22, 23, 24, 25] [(0, 31, 33)] [4, 10, 11] [(0, 30, 30)]) σ0 (r)) := by
  unfold fX12_write_75
  exact zpc_if (fun _ => zpc_if (fun _ => fk_fX12_write_103 h) (fun _ => zpc_ck (zpc_bs (zQ.wi h rfl) (fun σ3 hσ3 => fk_fX12_write_103 hσ3)))) (fun _ => fk_fX12_write_103 h)
theorem fk_fX12_write_52 {σ0 : zSt} {σ : zSt} {x3 : Int32} {x4 : Int32} (h : (zQ [3, 5, 6, 7, 8, 9, 21, 22, 23, 24, 25] [(0, 31, 33)] [4, 10, 11] [(0, 30, 30)]) σ0 σ) : zpc (fX12_write_52 σ x3 x4) (fun r => (zQ [3, 5, 6, 7, 8, 9, 21, 22, 23, 24, 25] [(0, 31, 33)] [4, 10, 11] [(0, 30, 30)]) σ0 (r)) := by
  unfold fX12_write_52
  exact zpc_if (fun _ => zpc_if (fun _ => zpc_ck (zpc_bs (zQ.wi h rfl) (fun σ4 hσ4 => fk_fX12_write_75 hσ4))) (fun _ => fk_fX12_write_75 h)) (fun _ => fk_fX12_write_75 h)
theorem fk_fX12_write_31 {σ0 : zSt} {σ : zSt} {x3 : Int32} {x4 : Int32} (h : (zQ [3, 5, 6, 7, 8, 9, 21, 22, 23, 24, 25] [(0, 31, 33)] [4, 10, 11] [(0, 30, 30)]) σ0 σ) : zpc (fX12_write_31 σ x3 x4) (fun r => (zQ [3, 5, 6, 7, 8, 9, 21, 22, 23, 24, 25] [(0, 31, 33)] [4, 10, 11] [(0, 30, 30)]) σ0 (r)) := by
  unfold fX12_write_31
  exact zpc_bi (fk_fX12_isBattery h) (fun σ5 v6 hσ5 => zpc_if (fun _ => fk_fX12_write_52 hσ5) (fun _ => zpc_bi (fk_fX12_batteryAt hσ5) (fun σ7 v8 hσ7 => zpc_ck (zpc_bs (zQ.wi hσ7 rfl) (fun σ9 hσ9 => fk_fX12_write_52 hσ9)))))
theorem fk_fX12_write {σ0 : zSt} {σ : zSt} {x1 : Int32} {x2 : Int32} (h : (zQ [3, 5, 6, 7, 8, 9, 21, 22, 23, 24, 25] [(0, 31, 33)] [4, 10, 11] [(0, 30, 30)]) σ0 σ) : zpc (fX12_write σ x1 x2) (fun r => (zQ [3, 5, 6, 7, 8, 9, 21, 22, 23, 24, 25] [(0, 31, 33)] [4, 10, 11] [(0, 30, 30)]) σ0 (r)) := by
  unfold fX12_write
  exact zpc_bv (fun v10 _ => zpc_bv (fun v11 _ => zpc_if (fun _ => fk_fX12_write_31 h) (fun _ => zpc_ck (zpc_ck (zpc_bs (zQ.wi h rfl) (fun σ12 hσ12 => fk_fX12_write_31 hσ12))))))
theorem fk_fX12_word {σ0 : zSt} {σ : zSt} {x1 : Int32} (h : (zQ [3, 5, 6, 7, 8, 9, 21, 22, 23, 24, 25] [(0, 31, 33)] [4, 10, 11] [(0, 30, 30)]) σ0 σ) : zpc (fX12_word σ x1) (fun r => (zQ [3, 5, 6, 7, 8, 9, 21, 22, 23, 24, 25] [(0, 31, 33)] [4, 10, 11] [(0, 30, 30)]) σ0 (r.1)) := by
  unfold fX12_word
  exact zpc_bi (fk_fX12_read h) (fun σ1 v2 hσ1 => zpc_bi (fk_fX12_read hσ1) (fun σ3 v4 hσ3 => zpc_some hσ3))
theorem fk_fX12_wordTo {σ0 : zSt} {σ : zSt} {x1 : Int32} {x2 : Int32} (h : (zQ [3, 5, 6, 7, 8, 9, 21, 22, 23, 24, 25] [(0, 31, 33)] [4, 10, 11] [(0, 30, 30)]) σ0 σ) : zpc (fX12_wordTo σ x1 x2) (fun r => (zQ [3, 5, 6, 7, 8, 9, 21, 22, 23, 24, 25] [(0, 31, 33)] [4, 10, 11] [(0, 30, 30)]) σ0 (r)) := by
  unfold fX12_wordTo
  exact zpc_bu (fk_fX12_write h) (fun σ1 hσ1 => zpc_bu (fk_fX12_write hσ1) (fun σ2 hσ2 => zpc_some hσ2))
theorem fk_fX12_pair {σ0 : zSt} {σ : zSt} {x1 : Int32} (h : (zQ [3, 5, 6, 7, 8, 9, 21, 22, 23, 24, 25] [(0, 31, 33)] [4, 10, 11] [(0, 30, 30)]) σ0 σ) : zpc (fX12_pair σ x1) (fun r => (zQ [3, 5, 6, 7, 8, 9, 21, 22, 23, 24, 25] [(0, 31, 33)] [4, 10, 11] [(0, 30, 30)]) σ0 (r.1)) := by
  unfold fX12_pair
  exact zpc_ck (zpc_ck (zpc_some h))
theorem fk_fX12_pairTo {σ0 : zSt} {σ : zSt} {x1 : Int32} {x2 : Int32} (h : (zQ [3, 5, 6, 7, 8, 9, 21, 22, 23, 24, 25] [(0, 31, 33)] [4, 10, 11] [(0, 30, 30)]) σ0 σ) : zpc (fX12_pairTo σ x1 x2) (fun r => (zQ [3, 5, 6, 7, 8, 9, 21, 22, 23, 24, 25] [(0, 31, 33)] [4, 10, 11] [(0, 30, 30)]) σ0 (r)) := by
  unfold fX12_pairTo
  exact zpc_ck (zpc_bs (zQ.wi h rfl) (fun σ1 hσ1 => zpc_ck (zpc_bs (zQ.wi hσ1 rfl) (fun σ2 hσ2 => zpc_some hσ2))))
theorem fk_fX12_hl_25 {σ0 : zSt} {σ : zSt} {s0 : Int32} (h : (zQ [3, 5, 6, 7, 8, 9, 21, 22, 23, 24, 25] [(0, 31, 33)] [4, 10, 11] [(0, 30, 30)]) σ0 σ) : zpc (fX12_hl_25 σ s0) (fun r => (zQ [3, 5, 6, 7, 8, 9, 21, 22, 23, 24, 25] [(0, 31, 33)] [4, 10, 11] [(0, 30, 30)]) σ0 (r.1)) := by
  unfold fX12_hl_25
  exact zpc_some h
theorem fk_fX12_hl {σ0 : zSt} {σ : zSt} (h : (zQ [3, 5, 6, 7, 8, 9, 21, 22, 23, 24, 25] [(0, 31, 33)] [4, 10, 11] [(0, 30, 30)]) σ0 σ) : zpc (fX12_hl σ) (fun r => (zQ [3, 5, 6, 7, 8, 9, 21, 22, 23, 24, 25] [(0, 31, 33)] [4, 10, 11] [(0, 30, 30)]) σ0 (r.1)) := by
  unfold fX12_hl
  exact zpc_if (fun _ => zpc_bi (fk_fX12_pair h) (fun σ1 v2 hσ1 => fk_fX12_hl_25 hσ1)) (fun _ => zpc_ck (fk_fX12_hl_25 h))
theorem fk_fX12_hlTo_30 {σ0 : zSt} {σ : zSt} (h : (zQ [3, 5, 6, 7, 8, 9, 21, 22, 23, 24, 25] [(0, 31, 33)] [4, 10, 11] [(0, 30, 30)]) σ0 σ) : zpc (fX12_hlTo_30 σ) (fun r => (zQ [3, 5, 6, 7, 8, 9, 21, 22, 23, 24, 25] [(0, 31, 33)] [4, 10, 11] [(0, 30, 30)]) σ0 (r)) := by
  unfold fX12_hlTo_30
  exact zpc_some h
theorem fk_fX12_hlTo {σ0 : zSt} {σ : zSt} {x1 : Int32} (h : (zQ [3, 5, 6, 7, 8, 9, 21, 22, 23, 24, 25] [(0, 31, 33)] [4, 10, 11] [(0, 30, 30)]) σ0 σ) : zpc (fX12_hlTo σ x1) (fun r => (zQ [3, 5, 6, 7, 8, 9, 21, 22, 23, 24, 25] [(0, 31, 33)] [4, 10, 11] [(0, 30, 30)]) σ0 (r)) := by
  unfold fX12_hlTo
  exact zpc_if (fun _ => zpc_bu (fk_fX12_pairTo h) (fun σ2 hσ2 => fk_fX12_hlTo_30 hσ2)) (fun _ => zpc_ck (zpc_bs (zQ.wi h rfl) (fun σ1 hσ1 => fk_fX12_hlTo_30 hσ1)))
theorem fk_fX12_rp_44 {σ0 : zSt} {σ : zSt} {s0 : Int32} (h : (zQ [3, 5, 6, 7, 8, 9, 21, 22, 23, 24, 25] [(0, 31, 33)] [4, 10, 11] [(0, 30, 30)]) σ0 σ) : zpc (fX12_rp_44 σ s0) (fun r => (zQ [3, 5, 6, 7, 8, 9, 21, 22, 23, 24, 25] [(0, 31, 33)] [4, 10, 11] [(0, 30, 30)]) σ0 (r.1)) := by
  unfold fX12_rp_44
  exact zpc_some h
theorem fk_fX12_rp {σ0 : zSt} {σ : zSt} {x1 : Int32} (h : (zQ [3, 5, 6, 7, 8, 9, 21, 22, 23, 24, 25] [(0, 31, 33)] [4, 10, 11] [(0, 30, 30)]) σ0 σ) : zpc (fX12_rp σ x1) (fun r => (zQ [3, 5, 6, 7, 8, 9, 21, 22, 23, 24, 25] [(0, 31, 33)] [4, 10, 11] [(0, 30, 30)]) σ0 (r.1)) := by
  unfold fX12_rp
  exact zpc_if (fun _ => zpc_bi (fk_fX12_pair h) (fun σ5 v6 hσ5 => fk_fX12_rp_44 hσ5)) (fun _ => zpc_if (fun _ => zpc_bi (fk_fX12_pair h) (fun σ3 v4 hσ3 => fk_fX12_rp_44 hσ3)) (fun _ => zpc_if (fun _ => zpc_bi (fk_fX12_hl h) (fun σ1 v2 hσ1 => fk_fX12_rp_44 hσ1)) (fun _ => zpc_ck (fk_fX12_rp_44 h))))
theorem fk_fX12_rpTo_51 {σ0 : zSt} {σ : zSt} (h : (zQ [3, 5, 6, 7, 8, 9, 21, 22, 23, 24, 25] [(0, 31, 33)] [4, 10, 11] [(0, 30, 30)]) σ0 σ) : zpc (fX12_rpTo_51 σ) (fun r => (zQ [3, 5, 6, 7, 8, 9, 21, 22, 23, 24, 25] [(0, 31, 33)] [4, 10, 11] [(0, 30, 30)]) σ0 (r)) := by
  unfold fX12_rpTo_51
  exact zpc_some h
theorem fk_fX12_rpTo {σ0 : zSt} {σ : zSt} {x1 : Int32} {x2 : Int32} (h : (zQ [3, 5, 6, 7, 8, 9, 21, 22, 23, 24, 25] [(0, 31, 33)] [4, 10, 11] [(0, 30, 30)]) σ0 σ) : zpc (fX12_rpTo σ x1 x2) (fun r => (zQ [3, 5, 6, 7, 8, 9, 21, 22, 23, 24, 25] [(0, 31, 33)] [4, 10, 11] [(0, 30, 30)]) σ0 (r)) := by
  unfold fX12_rpTo
  exact zpc_if (fun _ => zpc_bu (fk_fX12_pairTo h) (fun σ4 hσ4 => fk_fX12_rpTo_51 hσ4)) (fun _ => zpc_if (fun _ => zpc_bu (fk_fX12_pairTo h) (fun σ3 hσ3 => fk_fX12_rpTo_51 hσ3)) (fun _ => zpc_if (fun _ => zpc_bu (fk_fX12_hlTo h) (fun σ2 hσ2 => fk_fX12_rpTo_51 hσ2)) (fun _ => zpc_ck (zpc_bs (zQ.wi h rfl) (fun σ1 hσ1 => fk_fX12_rpTo_51 hσ1)))))
theorem fk_fX12_m_23 {σ0 : zSt} {σ : zSt} {s0 : Int32} (h : (zQ [3, 5, 6, 7, 8, 9, 21, 22, 23, 24, 25] [(0, 31, 33)] [4, 10, 11] [(0, 30, 30)]) σ0 σ) : zpc (fX12_m_23 σ s0) (fun r => (zQ [3, 5, 6, 7, 8, 9, 21, 22, 23, 24, 25] [(0, 31, 33)] [4, 10, 11] [(0, 30, 30)]) σ0 (r.1)) := by
  unfold fX12_m_23
  exact zpc_some h
theorem fk_fX12_m {σ0 : zSt} {σ : zSt} (h : (zQ [3, 5, 6, 7, 8, 9, 21, 22, 23, 24, 25] [(0, 31, 33)] [4, 10, 11] [(0, 30, 30)]) σ0 σ) : zpc (fX12_m σ) (fun r => (zQ [3, 5, 6, 7, 8, 9, 21, 22, 23, 24, 25] [(0, 31, 33)] [4, 10, 11] [(0, 30, 30)]) σ0 (r.1)) := by
  unfold fX12_m
  exact zpc_if (fun _ => zpc_bi (fk_fX12_pair h) (fun σ1 v2 hσ1 => fk_fX12_m_23 hσ1)) (fun _ => zpc_ck (fk_fX12_m_23 h))
theorem fk_fX12_r_74 {σ0 : zSt} {σ : zSt} {x1 : Int32} (h : (zQ [3, 5, 6, 7, 8, 9, 21, 22, 23, 24, 25] [(0, 31, 33)] [4, 10, 11] [(0, 30, 30)]) σ0 σ) : zpc (fX12_r_74 σ x1) (fun r => (zQ [3, 5, 6, 7, 8, 9, 21, 22, 23, 24, 25] [(0, 31, 33)] [4, 10, 11] [(0, 30, 30)]) σ0 (r.1)) := by
  unfold fX12_r_74
  exact zpc_ck (zpc_some h)
theorem fk_fX12_r_73 {σ0 : zSt} {σ : zSt} {s0 : Int32} (h : (zQ [3, 5, 6, 7, 8, 9, 21, 22, 23, 24, 25] [(0, 31, 33)] [4, 10, 11] [(0, 30, 30)]) σ0 σ) : zpc (fX12_r_73 σ s0) (fun r => (zQ [3, 5, 6, 7, 8, 9, 21, 22, 23, 24, 25] [(0, 31, 33)] [4, 10, 11] [(0, 30, 30)]) σ0 (r.1)) := by
  unfold fX12_r_73
  exact zpc_some h
theorem fk_fX12_r {σ0 : zSt} {σ : zSt} {x1 : Int32} (h : (zQ [3, 5, 6, 7, 8, 9, 21, 22, 23, 24, 25] [(0, 31, 33)] [4, 10, 11] [(0, 30, 30)]) σ0 σ) : zpc (fX12_r σ x1) (fun r => (zQ [3, 5, 6, 7, 8, 9, 21, 22, 23, 24, 25] [(0, 31, 33)] [4, 10, 11] [(0, 30, 30)]) σ0 (r.1)) := by
  unfold fX12_r
  exact zpc_if (fun _ => zpc_bi (fk_fX12_m h) (fun σ1 v2 hσ1 => zpc_bi (fk_fX12_read hσ1) (fun σ3 v4 hσ3 => zpc_some hσ3))) (fun _ => zpc_if (fun _ => zpc_ck (zpc_some h)) (fun _ => zpc_if (fun _ => fk_fX12_r_74 h) (fun _ => zpc_if (fun _ => fk_fX12_r_74 h) (fun _ => zpc_if (fun _ => zpc_ck (fk_fX12_r_73 h)) (fun _ => zpc_ck (fk_fX12_r_73 h))))))
theorem fk_fX12_rTo_113 {σ0 : zSt} {σ : zSt} (h : (zQ [3, 5, 6, 7, 8, 9, 21, 22, 23, 24, 25] [(0, 31, 33)] [4, 10, 11] [(0, 30, 30)]) σ0 σ) : zpc (fX12_rTo_113 σ) (fun r => (zQ [3, 5, 6, 7, 8, 9, 21, 22, 23, 24, 25] [(0, 31, 33)] [4, 10, 11] [(0, 30, 30)]) σ0 (r)) := by
  unfold fX12_rTo_113
  exact zpc_some h
theorem fk_fX12_rTo_104 {σ0 : zSt} {σ : zSt} {x1 : Int32} {x3 : Int32} (h : (zQ [3, 5, 6, 7, 8, 9, 21, 22, 23, 24, 25] [(0, 31, 33)] [4, 10, 11] [(0, 30, 30)]) σ0 σ) : zpc (fX12_rTo_104 σ x1 x3) (fun r => (zQ [3, 5, 6, 7, 8, 9, 21, 22, 23, 24, 25] [(0, 31, 33)] [4, 10, 11] [(0, 30, 30)]) σ0 (r)) := by
  unfold fX12_rTo_104
  exact zpc_ck (zpc_bs (zQ.wi h rfl) (fun σ1 hσ1 => fk_fX12_rTo_113 hσ1))
theorem fk_fX12_rTo_100 {σ0 : zSt} {σ : zSt} {s0 : Int32} {s1 : Int32} (h : (zQ [3, 5, 6, 7, 8, 9, 21, 22, 23, 24, 25] [(0, 31, 33)] [4, 10, 11] [(0, 30, 30)]) σ0 σ) : zpc (fX12_rTo_100 σ s0 s1) (fun r => (zQ [3, 5, 6, 7, 8, 9, 21, 22, 23, 24, 25] [(0, 31, 33)] [4, 10, 11] [(0, 30, 30)]) σ0 (r)) := by
  unfold fX12_rTo_100
  exact zpc_ck (zpc_bs (zQ.wi h rfl) (fun σ2 hσ2 => fk_fX12_rTo_113 hσ2))
theorem fk_fX12_rTo {σ0 : zSt} {σ : zSt} {x1 : Int32} {x2 : Int32} (h : (zQ [3, 5, 6, 7, 8, 9, 21, 22, 23, 24, 25] [(0, 31, 33)] [4, 10, 11] [(0, 30, 30)]) σ0 σ) : zpc (fX12_rTo σ x1 x2) (fun r => (zQ [3, 5, 6, 7, 8, 9, 21, 22, 23, 24, 25] [(0, 31, 33)] [4, 10, 11] [(0, 30, 30)]) σ0 (r)) := by
  unfold fX12_rTo
  exact zpc_bv (fun v3 _ => zpc_if (fun _ => zpc_bi (fk_fX12_m h) (fun σ5 v6 hσ5 => zpc_bu (fk_fX12_write hσ5) (fun σ7 hσ7 => fk_fX12_rTo_113 hσ7))) (fun _ => zpc_if (fun _ => zpc_ck (zpc_bs (zQ.wi h rfl) (fun σ4 hσ4 => fk_fX12_rTo_113 hσ4))) (fun _ => zpc_if (fun _ => fk_fX12_rTo_104 h) (fun _ => zpc_if (fun _ => fk_fX12_rTo_104 h) (fun _ => zpc_if (fun _ => zpc_ck (fk_fX12_rTo_100 h)) (fun _ => zpc_ck (fk_fX12_rTo_100 h)))))))
theorem fk_fX12_put_34 {σ0 : zSt} {σ : zSt} {s0 : Int32} {s1 : Int32} (h : (zQ [3, 5, 6, 7, 8, 9, 21, 22, 23, 24, 25] [(0, 31, 33)] [4, 10, 11] [(0, 30, 30)]) σ0 σ) : zpc (fX12_put_34 σ s0 s1) (fun r => (zQ [3, 5, 6, 7, 8, 9, 21, 22, 23, 24, 25] [(0, 31, 33)] [4, 10, 11] [(0, 30, 30)]) σ0 (r)) := by
  unfold fX12_put_34
  exact zpc_ck (zpc_bs (zQ.wi h rfl) (fun σ1 hσ1 => zpc_some hσ1))
theorem fk_fX12_put {σ0 : zSt} {σ : zSt} {x1 : Int32} {x2 : Int32} (h : (zQ [3, 5, 6, 7, 8, 9, 21, 22, 23, 24, 25] [(0, 31, 33)] [4, 10, 11] [(0, 30, 30)]) σ0 σ) : zpc (fX12_put σ x1 x2) (fun r => (zQ [3, 5, 6, 7, 8, 9, 21, 22, 23, 24, 25] [(0, 31, 33)] [4, 10, 11] [(0, 30, 30)]) σ0 (r)) := by
  unfold fX12_put
  exact zpc_if (fun _ => zpc_ck (fk_fX12_put_34 h)) (fun _ => zpc_ck (fk_fX12_put_34 h))
theorem fk_fX12_flag {σ0 : zSt} {σ : zSt} {x1 : Int32} (h : (zQ [3, 5, 6, 7, 8, 9, 21, 22, 23, 24, 25] [(0, 31, 33)] [4, 10, 11] [(0, 30, 30)]) σ0 σ) : zpc (fX12_flag σ x1) (fun r => (zQ [3, 5, 6, 7, 8, 9, 21, 22, 23, 24, 25] [(0, 31, 33)] [4, 10, 11] [(0, 30, 30)]) σ0 (r.1)) := by
  unfold fX12_flag
  exact zpc_ck (zpc_some h)
theorem fk_fX12_xy_31 {σ0 : zSt} {σ : zSt} {s0 : Int32} {s1 : Int32} (h : (zQ [3, 5, 6, 7, 8, 9, 21, 22, 23, 24, 25] [(0, 31, 33)] [4, 10, 11] [(0, 30, 30)]) σ0 σ) : zpc (fX12_xy_31 σ s0 s1) (fun r => (zQ [3, 5, 6, 7, 8, 9, 21, 22, 23, 24, 25] [(0, 31, 33)] [4, 10, 11] [(0, 30, 30)]) σ0 (r)) := by
  unfold fX12_xy_31
  exact zpc_bu (fk_fX12_put h) (fun σ1 hσ1 => zpc_some hσ1)
theorem fk_fX12_xy_14 {σ0 : zSt} {σ : zSt} {x1 : Int32} {s0 : Int32} {s1 : Int32} (h : (zQ [3, 5, 6, 7, 8, 9, 21, 22, 23, 24, 25] [(0, 31, 33)] [4, 10, 11] [(0, 30, 30)]) σ0 σ) : zpc (fX12_xy_14 σ x1 s0 s1) (fun r => (zQ [3, 5, 6, 7, 8, 9, 21, 22, 23, 24, 25] [(0, 31, 33)] [4, 10, 11] [(0, 30, 30)]) σ0 (r)) := by
  unfold fX12_xy_14
  exact zpc_bu (fk_fX12_put h) (fun σ2 hσ2 => zpc_if (fun _ => fk_fX12_xy_31 hσ2) (fun _ => fk_fX12_xy_31 hσ2))
theorem fk_fX12_xy {σ0 : zSt} {σ : zSt} {x1 : Int32} (h : (zQ [3, 5, 6, 7, 8, 9, 21, 22, 23, 24, 25] [(0, 31, 33)] [4, 10, 11] [(0, 30, 30)]) σ0 σ) : zpc (fX12_xy σ x1) (fun r => (zQ [3, 5, 6, 7, 8, 9, 21, 22, 23, 24, 25] [(0, 31, 33)] [4, 10, 11] [(0, 30, 30)]) σ0 (r)) := by
  unfold fX12_xy
  exact zpc_if (fun _ => fk_fX12_xy_14 h) (fun _ => fk_fX12_xy_14 h)
theorem fk_fX12_by_31 {σ0 : zSt} {σ : zSt} {x1 : Int32} {s0 : Int32} {s1 : Int32} (h : (zQ [3, 5, 6, 7, 8, 9, 21, 22, 23, 24, 25] [(0, 31, 33)] [4, 10, 11] [(0, 30, 30)]) σ0 σ) : zpc (fX12_by_31 σ x1 s0 s1) (fun r => (zQ [3, 5, 6, 7, 8, 9, 21, 22, 23, 24, 25] [(0, 31, 33)] [4, 10, 11] [(0, 30, 30)]) σ0 (r)) := by
  unfold fX12_by_31
  exact zpc_bu (fk_fX12_put h) (fun σ1 hσ1 => zpc_bu (fk_fX12_xy hσ1) (fun σ2 hσ2 => zpc_some hσ2))
theorem fk_fX12_by_16 {σ0 : zSt} {σ : zSt} {x1 : Int32} {s0 : Int32} {s1 : Int32} (h : (zQ [3, 5, 6, 7, 8, 9, 21, 22, 23, 24, 25] [(0, 31, 33)] [4, 10, 11] [(0, 30, 30)]) σ0 σ) : zpc (fX12_by_16 σ x1 s0 s1) (fun r => (zQ [3, 5, 6, 7, 8, 9, 21, 22, 23, 24, 25] [(0, 31, 33)] [4, 10, 11] [(0, 30, 30)]) σ0 (r)) := by
  unfold fX12_by_16
  exact zpc_bu (fk_fX12_put h) (fun σ3 hσ3 => zpc_if (fun _ => fk_fX12_by_31 hσ3) (fun _ => fk_fX12_by_31 hσ3))
theorem fk_fX12_by {σ0 : zSt} {σ : zSt} {x1 : Int32} (h : (zQ [3, 5, 6, 7, 8, 9, 21, 22, 23, 24, 25] [(0, 31, 33)] [4, 10, 11] [(0, 30, 30)]) σ0 σ) : zpc (fX12_by σ x1) (fun r => (zQ [3, 5, 6, 7, 8, 9, 21, 22, 23, 24, 25] [(0, 31, 33)] [4, 10, 11] [(0, 30, 30)]) σ0 (r)) := by
  unfold fX12_by
  exact zpc_if (fun _ => fk_fX12_by_16 h) (fun _ => fk_fX12_by_16 h)
theorem fk_fX12_isEven_35 {σ0 : zSt} {σ : zSt} {s0 : Int32} (h : (zQ [3, 5, 6, 7, 8, 9, 21, 22, 23, 24, 25] [(0, 31, 33)] [4, 10, 11] [(0, 30, 30)]) σ0 σ) : zpc (fX12_isEven_35 σ s0) (fun r => (zQ [3, 5, 6, 7, 8, 9, 21, 22, 23, 24, 25] [(0, 31, 33)] [4, 10, 11] [(0, 30, 30)]) σ0 (r.1)) := by
  unfold fX12_isEven_35
  exact zpc_ck (zpc_some h)
theorem fk_fX12_isEven_4_body {σ0 : zSt} {k4 : zSt → Int32 → Int32 → Int32 → Option (zSt × Int32)} (hk4 : ∀ (y0 : zSt) (y1 : Int32) (y2 : Int32) (y3 : Int32), (zQ [3, 5, 6, 7, 8, 9, 21, 22, 23, 24, 25] [(0, 31, 33)] [4, 10, 11] [(0, 30, 30)]) σ0 y0 → zpc (k4 y0 y1 y2 y3) (fun r => (zQ [3, 5, 6, 7, 8, 9, 21, 22, 23, 24, 25] [(0, 31, 33)] [4, 10, 11] [(0, 30, 30)]) σ0 (r.1))) {σ : zSt} {x0 : Int32} {x1 : Int32} {x2 : Int32} (h : (zQ [3, 5, 6, 7, 8, 9, 21, 22, 23, 24, 25] [(0, 31, 33)] [4, 10, 11] [(0, 30, 30)]) σ0 σ) : zpc (fX12_isEven_4_body k4 σ x0 x1 x2) (fun r => (zQ [3, 5, 6, 7, 8, 9, 21, 22, 23, 24, 25] [(0, 31, 33)] [4, 10, 11] [(0, 30, 30)]) σ0 (r.1)) := by
  unfold fX12_isEven_4_body
  exact zpc_if (fun _ => zpc_ck (zpc_if (fun _ => fk_fX12_isEven_35 h) (fun _ => fk_fX12_isEven_35 h))) (fun _ => zpc_bv (fun v1 _ => zpc_bv (fun v2 _ => hk4 _ _ _ _ h)))
theorem fk_fX12_isEven_4 {σ0 : zSt} : ∀ (n : Nat) (y0 : zSt) (y1 : Int32) (y2 : Int32) (y3 : Int32), (zQ [3, 5, 6, 7, 8, 9, 21, 22, 23, 24, 25] [(0, 31, 33)] [4, 10, 11] [(0, 30, 30)]) σ0 y0 → zpc (fX12_isEven_4 n y0 y1 y2 y3) (fun r => (zQ [3, 5, 6, 7, 8, 9, 21, 22, 23, 24, 25] [(0, 31, 33)] [4, 10, 11] [(0, 30, 30)]) σ0 (r.1)) := by
  intro n
  induction n with
  | zero => intro y0 y1 y2 y3 h; exact zpc_none
  | succ n ih => intro y0 y1 y2 y3 h; exact fk_fX12_isEven_4_body ih h
theorem fk_fX12_isEven {σ0 : zSt} {σ : zSt} {x0 : Int32} (h : (zQ [3, 5, 6, 7, 8, 9, 21, 22, 23, 24, 25] [(0, 31, 33)] [4, 10, 11] [(0, 30, 30)]) σ0 σ) : zpc (fX12_isEven σ x0) (fun r => (zQ [3, 5, 6, 7, 8, 9, 21, 22, 23, 24, 25] [(0, 31, 33)] [4, 10, 11] [(0, 30, 30)]) σ0 (r.1)) := by
  unfold fX12_isEven
  exact fk_fX12_isEven_4 _ _ _ _ _ h
theorem fk_fX12_cc_64 {σ0 : zSt} {σ : zSt} {s0 : Int32} (h : (zQ [3, 5, 6, 7, 8, 9, 21, 22, 23, 24, 25] [(0, 31, 33)] [4, 10, 11] [(0, 30, 30)]) σ0 σ) : zpc (fX12_cc_64 σ s0) (fun r => (zQ [3, 5, 6, 7, 8, 9, 21, 22, 23, 24, 25] [(0, 31, 33)] [4, 10, 11] [(0, 30, 30)]) σ0 (r.1)) := by
  unfold fX12_cc_64
  exact zpc_ck (zpc_some h)
theorem fk_fX12_cc_56 {σ0 : zSt} {σ : zSt} {s0 : Int32} {s1 : Int32} (h : (zQ [3, 5, 6, 7, 8, 9, 21, 22, 23, 24, 25] [(0, 31, 33)] [4, 10, 11] [(0, 30, 30)]) σ0 σ) : zpc (fX12_cc_56 σ s0 s1) (fun r => (zQ [3, 5, 6, 7, 8, 9, 21, 22, 23, 24, 25] [(0, 31, 33)] [4, 10, 11] [(0, 30, 30)]) σ0 (r.1)) := by
  unfold fX12_cc_56
  exact zpc_if (fun _ => fk_fX12_cc_64 h) (fun _ => fk_fX12_cc_64 h)
theorem fk_fX12_cc_44 {σ0 : zSt} {σ : zSt} {x1 : Int32} {s0 : Int32} (h : (zQ [3, 5, 6, 7, 8, 9, 21, 22, 23, 24, 25] [(0, 31, 33)] [4, 10, 11] [(0, 30, 30)]) σ0 σ) : zpc (fX12_cc_44 σ x1 s0) (fun r => (zQ [3, 5, 6, 7, 8, 9, 21, 22, 23, 24, 25] [(0, 31, 33)] [4, 10, 11] [(0, 30, 30)]) σ0 (r.1)) := by
  unfold fX12_cc_44
  exact zpc_ck (zpc_if (fun _ => fk_fX12_cc_56 h) (fun _ => fk_fX12_cc_56 h))
theorem fk_fX12_cc_32 {σ0 : zSt} {σ : zSt} {x1 : Int32} {s0 : Int32} (h : (zQ [3, 5, 6, 7, 8, 9, 21, 22, 23, 24, 25] [(0, 31, 33)] [4, 10, 11] [(0, 30, 30)]) σ0 σ) : zpc (fX12_cc_32 σ x1 s0) (fun r => (zQ [3, 5, 6, 7, 8, 9, 21, 22, 23, 24, 25] [(0, 31, 33)] [4, 10, 11] [(0, 30, 30)]) σ0 (r.1)) := by
  unfold fX12_cc_32
  exact zpc_bi (fk_fX12_flag h) (fun σ1 v2 hσ1 => zpc_if (fun _ => fk_fX12_cc_44 hσ1) (fun _ => fk_fX12_cc_44 hσ1))
theorem fk_fX12_cc {σ0 : zSt} {σ : zSt} {x1 : Int32} (h : (zQ [3, 5, 6, 7, 8, 9, 21, 22, 23, 24, 25] [(0, 31, 33)] [4, 10, 11] [(0, 30, 30)]) σ0 σ) : zpc (fX12_cc σ x1) (fun r => (zQ [3, 5, 6, 7, 8, 9, 21, 22, 23, 24, 25] [(0, 31, 33)] [4, 10, 11] [(0, 30, 30)]) σ0 (r.1)) := by
  unfold fX12_cc
  exact zpc_if (fun _ => zpc_if (fun _ => zpc_if (fun _ => fk_fX12_cc_32 h) (fun _ => fk_fX12_cc_32 h)) (fun _ => fk_fX12_cc_32 h)) (fun _ => fk_fX12_cc_32 h)
theorem fk_fX12_push {σ0 : zSt} {σ : zSt} {x1 : Int32} (h : (zQ [3, 5, 6, 7, 8, 9, 21, 22, 23, 24, 25] [(0, 31, 33)] [4, 10, 11] [(0, 30, 30)]) σ0 σ) : zpc (fX12_push σ x1) (fun r => (zQ [3, 5, 6, 7, 8, 9, 21, 22, 23, 24, 25] [(0, 31, 33)] [4, 10, 11] [(0, 30, 30)]) σ0 (r)) := by
  unfold fX12_push
  exact zpc_ck (zpc_ck (zpc_bs (zQ.wi h rfl) (fun σ1 hσ1 => zpc_ck (zpc_bu (fk_fX12_write hσ1) (fun σ2 hσ2 => zpc_ck (zpc_ck (zpc_bs (zQ.wi hσ2 rfl) (fun σ3 hσ3 => zpc_ck (zpc_bu (fk_fX12_write hσ3) (fun σ4 hσ4 => zpc_some hσ4))))))))))
theorem fk_fX12_pop {σ0 : zSt} {σ : zSt} (h : (zQ [3, 5, 6, 7, 8, 9, 21, 22, 23, 24, 25] [(0, 31, 33)] [4, 10, 11] [(0, 30, 30)]) σ0 σ) : zpc (fX12_pop σ) (fun r => (zQ [3, 5, 6, 7, 8, 9, 21, 22, 23, 24, 25] [(0, 31, 33)] [4, 10, 11] [(0, 30, 30)]) σ0 (r.1)) := by
  unfold fX12_pop
  exact zpc_ck (zpc_bi (fk_fX12_read h) (fun σ1 v2 hσ1 => zpc_ck (zpc_ck (zpc_bs (zQ.wi hσ1 rfl) (fun σ3 hσ3 => zpc_ck (zpc_bi (fk_fX12_read hσ3) (fun σ4 v5 hσ4 => zpc_bv (fun v6 _ => zpc_ck (zpc_ck (zpc_bs (zQ.wi hσ4 rfl) (fun σ7 hσ7 => zpc_some hσ7)))))))))))
theorem fk_fX12_grows {σ0 : zSt} {σ : zSt} (h : (zQ [3, 5, 6, 7, 8, 9, 21, 22, 23, 24, 25] [(0, 31, 33)] [4, 10, 11] [(0, 30, 30)]) σ0 σ) : zpc (fX12_grows σ) (fun r => (zQ [3, 5, 6, 7, 8, 9, 21, 22, 23, 24, 25] [(0, 31, 33)] [4, 10, 11] [(0, 30, 30)]) σ0 (r)) := by
  unfold fX12_grows
  exact zpc_ck (zpc_ck (zpc_ck (zpc_bs (zQ.wi h rfl) (fun σ1 hσ1 => zpc_some hσ1))))
theorem fk_fX12_next {σ0 : zSt} {σ : zSt} (h : (zQ [3, 5, 6, 7, 8, 9, 21, 22, 23, 24, 25] [(0, 31, 33)] [4, 10, 11] [(0, 30, 30)]) σ0 σ) : zpc (fX12_next σ) (fun r => (zQ [3, 5, 6, 7, 8, 9, 21, 22, 23, 24, 25] [(0, 31, 33)] [4, 10, 11] [(0, 30, 30)]) σ0 (r.1)) := by
  unfold fX12_next
  exact zpc_ck (zpc_bi (fk_fX12_read h) (fun σ1 v2 hσ1 => zpc_ck (zpc_ck (zpc_bs (zQ.wi hσ1 rfl) (fun σ3 hσ3 => zpc_some hσ3)))))
theorem fk_fX12_fetch {σ0 : zSt} {σ : zSt} (h : (zQ [3, 5, 6, 7, 8, 9, 21, 22, 23, 24, 25] [(0, 31, 33)] [4, 10, 11] [(0, 30, 30)]) σ0 σ) : zpc (fX12_fetch σ) (fun r => (zQ [3, 5, 6, 7, 8, 9, 21, 22, 23, 24, 25] [(0, 31, 33)] [4, 10, 11] [(0, 30, 30)]) σ0 (r.1)) := by
  unfold fX12_fetch
  exact zpc_bi (fk_fX12_next h) (fun σ1 v2 hσ1 => zpc_bu (fk_fX12_grows hσ1) (fun σ3 hσ3 => zpc_some hσ3))
theorem fk_fX12_nextWord {σ0 : zSt} {σ : zSt} (h : (zQ [3, 5, 6, 7, 8, 9, 21, 22, 23, 24, 25] [(0, 31, 33)] [4, 10, 11] [(0, 30, 30)]) σ0 σ) : zpc (fX12_nextWord σ) (fun r => (zQ [3, 5, 6, 7, 8, 9, 21, 22, 23, 24, 25] [(0, 31, 33)] [4, 10, 11] [(0, 30, 30)]) σ0 (r.1)) := by
  unfold fX12_nextWord
  exact zpc_bi (fk_fX12_next h) (fun σ1 v2 hσ1 => zpc_bi (fk_fX12_next hσ1) (fun σ3 v4 hσ3 => zpc_some hσ3))
theorem fk_fX12_signed_16 {σ0 : zSt} {σ : zSt} {s0 : Int32} (h : (zQ [3, 5, 6, 7, 8, 9, 21, 22, 23, 24, 25] [(0, 31, 33)] [4, 10, 11] [(0, 30, 30)]) σ0 σ) : zpc (fX12_signed_16 σ s0) (fun r => (zQ [3, 5, 6, 7, 8, 9, 21, 22, 23, 24, 25] [(0, 31, 33)] [4, 10, 11] [(0, 30, 30)]) σ0 (r.1)) := by
  unfold fX12_signed_16
  exact zpc_some h
theorem fk_fX12_signed {σ0 : zSt} {σ : zSt} {x0 : Int32} (h : (zQ [3, 5, 6, 7, 8, 9, 21, 22, 23, 24, 25] [(0, 31, 33)] [4, 10, 11] [(0, 30, 30)]) σ0 σ) : zpc (fX12_signed σ x0) (fun r => (zQ [3, 5, 6, 7, 8, 9, 21, 22, 23, 24, 25] [(0, 31, 33)] [4, 10, 11] [(0, 30, 30)]) σ0 (r.1)) := by
  unfold fX12_signed
  exact zpc_if (fun _ => fk_fX12_signed_16 h) (fun _ => fk_fX12_signed_16 h)
theorem fk_fX12_call {σ0 : zSt} {σ : zSt} {x1 : Int32} (h : (zQ [3, 5, 6, 7, 8, 9, 21, 22, 23, 24, 25] [(0, 31, 33)] [4, 10, 11] [(0, 30, 30)]) σ0 σ) : zpc (fX12_call σ x1) (fun r => (zQ [3, 5, 6, 7, 8, 9, 21, 22, 23, 24, 25] [(0, 31, 33)] [4, 10, 11] [(0, 30, 30)]) σ0 (r)) := by
  unfold fX12_call
  exact zpc_ck (zpc_bu (fk_fX12_push h) (fun σ1 hσ1 => zpc_ck (zpc_bs (zQ.wi hσ1 rfl) (fun σ2 hσ2 => zpc_ck (zpc_bs (zQ.wi hσ2 rfl) (fun σ3 hσ3 => zpc_some hσ3))))))
theorem fk_fX12_change {σ0 : zSt} {σ : zSt} {x1 : Int32} {x2 : Int32} (h : (zQ [3, 5, 6, 7, 8, 9, 21, 22, 23, 24, 25] [(0, 31, 33)] [4, 10, 11] [(0, 30, 30)]) σ0 σ) : zpc (fX12_change σ x1 x2) (fun r => (zQ [3, 5, 6, 7, 8, 9, 21, 22, 23, 24, 25] [(0, 31, 33)] [4, 10, 11] [(0, 30, 30)]) σ0 (r)) := by
  unfold fX12_change
  exact zpc_ck (zpc_bv (fun v1 _ => zpc_ck (zpc_ck (zpc_bs (zQ.wi h rfl) (fun σ2 hσ2 => zpc_ck (zpc_bs (zQ.wi hσ2 rfl) (fun σ3 hσ3 => zpc_some hσ3)))))))
theorem fk_fX12_bit {σ0 : zSt} {σ : zSt} {x1 : Int32} {x2 : Int32} (h : (zQ [3, 5, 6, 7, 8, 9, 21, 22, 23, 24, 25] [(0, 31, 33)] [4, 10, 11] [(0, 30, 30)]) σ0 σ) : zpc (fX12_bit σ x1 x2) (fun r => (zQ [3, 5, 6, 7, 8, 9, 21, 22, 23, 24, 25] [(0, 31, 33)] [4, 10, 11] [(0, 30, 30)]) σ0 (r.1)) := by
  unfold fX12_bit
  exact zpc_ck (zpc_some h)
theorem fk_fX12_mode_57 {σ0 : zSt} {σ : zSt} {s0 : Int32} (h : (zQ [3, 5, 6, 7, 8, 9, 21, 22, 23, 24, 25] [(0, 31, 33)] [4, 10, 11] [(0, 30, 30)]) σ0 σ) : zpc (fX12_mode_57 σ s0) (fun r => (zQ [3, 5, 6, 7, 8, 9, 21, 22, 23, 24, 25] [(0, 31, 33)] [4, 10, 11] [(0, 30, 30)]) σ0 (r.1)) := by
  unfold fX12_mode_57
  exact zpc_some h
theorem fk_fX12_mode {σ0 : zSt} {σ : zSt} (h : (zQ [3, 5, 6, 7, 8, 9, 21, 22, 23, 24, 25] [(0, 31, 33)] [4, 10, 11] [(0, 30, 30)]) σ0 σ) : zpc (fX12_mode σ) (fun r => (zQ [3, 5, 6, 7, 8, 9, 21, 22, 23, 24, 25] [(0, 31, 33)] [4, 10, 11] [(0, 30, 30)]) σ0 (r.1)) := by
  unfold fX12_mode
  exact zpc_bi (fk_fX12_bit h) (fun σ1 v2 hσ1 => zpc_if (fun _ => fk_fX12_mode_57 hσ1) (fun _ => zpc_bi (fk_fX12_bit hσ1) (fun σ3 v4 hσ3 => zpc_if (fun _ => fk_fX12_mode_57 hσ3) (fun _ => zpc_bi (fk_fX12_bit hσ3) (fun σ5 v6 hσ5 => zpc_if (fun _ => fk_fX12_mode_57 hσ5) (fun _ => zpc_bi (fk_fX12_bit hσ5) (fun σ7 v8 hσ7 => zpc_if (fun _ => fk_fX12_mode_57 hσ7) (fun _ => fk_fX12_mode_57 hσ7))))))))
theorem fk_fX12_height_32 {σ0 : zSt} {σ : zSt} (h : (zQ [3, 5, 6, 7, 8, 9, 21, 22, 23, 24, 25] [(0, 31, 33)] [4, 10, 11] [(0, 30, 30)]) σ0 σ) : zpc (fX12_height_32 σ) (fun r => (zQ [3, 5, 6, 7, 8, 9, 21, 22, 23, 24, 25] [(0, 31, 33)] [4, 10, 11] [(0, 30, 30)]) σ0 (r.1)) := by
  unfold fX12_height_32
  exact zpc_some h
theorem fk_fX12_height_55 {σ0 : zSt} {σ : zSt} {s0 : Int32} (h : (zQ [3, 5, 6, 7, 8, 9, 21, 22, 23, 24, 25] [(0, 31, 33)] [4, 10, 11] [(0, 30, 30)]) σ0 σ) : zpc (fX12_height_55 σ s0) (fun r => (zQ [3, 5, 6, 7, 8, 9, 21, 22, 23, 24, 25] [(0, 31, 33)] [4, 10, 11] [(0, 30, 30)]) σ0 (r.1)) := by
  unfold fX12_height_55
  exact zpc_some h
theorem fk_fX12_height {σ0 : zSt} {σ : zSt} (h : (zQ [3, 5, 6, 7, 8, 9, 21, 22, 23, 24, 25] [(0, 31, 33)] [4, 10, 11] [(0, 30, 30)]) σ0 σ) : zpc (fX12_height σ) (fun r => (zQ [3, 5, 6, 7, 8, 9, 21, 22, 23, 24, 25] [(0, 31, 33)] [4, 10, 11] [(0, 30, 30)]) σ0 (r.1)) := by
  unfold fX12_height
  exact zpc_bi (fk_fX12_mode h) (fun σ1 v2 hσ1 => zpc_if (fun _ => zpc_bi (fk_fX12_bit hσ1) (fun σ3 v4 hσ3 => zpc_if (fun _ => fk_fX12_height_32 hσ3) (fun _ => zpc_bi (fk_fX12_bit hσ3) (fun σ5 v6 hσ5 => zpc_bi (fk_fX12_bit hσ5) (fun σ7 v8 hσ7 => zpc_if (fun _ => fk_fX12_height_32 hσ7) (fun _ => zpc_bi (fk_fX12_bit hσ7) (fun σ9 v10 hσ9 => zpc_if (fun _ => fk_fX12_height_55 hσ9) (fun _ => fk_fX12_height_55 hσ9)))))))) (fun _ => fk_fX12_height_32 hσ1))
theorem fk_fX12_vCount_109 {σ0 : zSt} {σ : zSt} {s0 : Int32} (h : (zQ [3, 5, 6, 7, 8, 9, 21, 22, 23, 24, 25] [(0, 31, 33)] [4, 10, 11] [(0, 30, 30)]) σ0 σ) : zpc (fX12_vCount_109 σ s0) (fun r => (zQ [3, 5, 6, 7, 8, 9, 21, 22, 23, 24, 25] [(0, 31, 33)] [4, 10, 11] [(0, 30, 30)]) σ0 (r.1)) := by
  unfold fX12_vCount_109
  exact zpc_some h
theorem fk_fX12_vCount_108 {σ0 : zSt} {σ : zSt} {s0 : Int32} {s1 : Int32} (h : (zQ [3, 5, 6, 7, 8, 9, 21, 22, 23, 24, 25] [(0, 31, 33)] [4, 10, 11] [(0, 30, 30)]) σ0 σ) : zpc (fX12_vCount_108 σ s0 s1) (fun r => (zQ [3, 5, 6, 7, 8, 9, 21, 22, 23, 24, 25] [(0, 31, 33)] [4, 10, 11] [(0, 30, 30)]) σ0 (r.1)) := by
  unfold fX12_vCount_108
  exact fk_fX12_vCount_109 h
theorem fk_fX12_vCount_82 {σ0 : zSt} {σ : zSt} {x1 : Int32} {s0 : Int32} (h : (zQ [3, 5, 6, 7, 8, 9, 21, 22, 23, 24, 25] [(0, 31, 33)] [4, 10, 11] [(0, 30, 30)]) σ0 σ) : zpc (fX12_vCount_82 σ x1 s0) (fun r => (zQ [3, 5, 6, 7, 8, 9, 21, 22, 23, 24, 25] [(0, 31, 33)] [4, 10, 11] [(0, 30, 30)]) σ0 (r.1)) := by
  unfold fX12_vCount_82
  exact zpc_if (fun _ => zpc_if (fun _ => fk_fX12_vCount_108 h) (fun _ => fk_fX12_vCount_108 h)) (fun _ => fk_fX12_vCount_109 h)
theorem fk_fX12_vCount {σ0 : zSt} {σ : zSt} (h : (zQ [3, 5, 6, 7, 8, 9, 21, 22, 23, 24, 25] [(0, 31, 33)] [4, 10, 11] [(0, 30, 30)]) σ0 σ) : zpc (fX12_vCount σ) (fun r => (zQ [3, 5, 6, 7, 8, 9, 21, 22, 23, 24, 25] [(0, 31, 33)] [4, 10, 11] [(0, 30, 30)]) σ0 (r.1)) := by
  unfold fX12_vCount
  exact zpc_ck (zpc_bv (fun v1 _ => zpc_bi (fk_fX12_height h) (fun σ2 v3 hσ2 => zpc_if (fun _ => zpc_if (fun _ => fk_fX12_vCount_82 hσ2) (fun _ => zpc_if (fun _ => fk_fX12_vCount_82 hσ2) (fun _ => fk_fX12_vCount_82 hσ2))) (fun _ => zpc_if (fun _ => fk_fX12_vCount_82 hσ2) (fun _ => zpc_if (fun _ => fk_fX12_vCount_82 hσ2) (fun _ => fk_fX12_vCount_82 hσ2))))))
theorem fk_fX12_status {σ0 : zSt} {σ : zSt} (h : (zQ [3, 5, 6, 7, 8, 9, 21, 22, 23, 24, 25] [(0, 31, 33)] [4, 10, 11] [(0, 30, 30)]) σ0 σ) : zpc (fX12_status σ) (fun r => (zQ [3, 5, 6, 7, 8, 9, 21, 22, 23, 24, 25] [(0, 31, 33)] [4, 10, 11] [(0, 30, 30)]) σ0 (r.1)) := by
  unfold fX12_status
  exact zpc_ck (zpc_bv (fun v1 _ => zpc_ck (zpc_bs (zQ.wi h rfl) (fun σ2 hσ2 => zpc_ck (zpc_bs (zQ.wi hσ2 rfl) (fun σ3 hσ3 => zpc_ck (zpc_bs (zQ.wi hσ3 rfl) (fun σ4 hσ4 => zpc_some hσ4))))))))
theorem fk_fX12_video8 {σ0 : zSt} {σ : zSt} {x1 : Int32} (h : (zQ [3, 5, 6, 7, 8, 9, 21, 22, 23, 24, 25] [(0, 31, 33)] [4, 10, 11] [(0, 30, 30)]) σ0 σ) : zpc (fX12_video8 σ x1) (fun r => (zQ [3, 5, 6, 7, 8, 9, 21, 22, 23, 24, 25] [(0, 31, 33)] [4, 10, 11] [(0, 30, 30)]) σ0 (r.1)) := by
  unfold fX12_video8
  exact zpc_ck (zpc_some h)
theorem fk_fX12_further {σ0 : zSt} {σ : zSt} (h : (zQ [3, 5, 6, 7, 8, 9, 21, 22, 23, 24, 25] [(0, 31, 33)] [4, 10, 11] [(0, 30, 30)]) σ0 σ) : zpc (fX12_further σ) (fun r => (zQ [3, 5, 6, 7, 8, 9, 21, 22, 23, 24, 25] [(0, 31, 33)] [4, 10, 11] [(0, 30, 30)]) σ0 (r)) := by
  unfold fX12_further
  exact zpc_ck (zpc_ck (zpc_bs (zQ.wi h rfl) (fun σ1 hσ1 => zpc_some hσ1)))
theorem fk_fX12_data {σ0 : zSt} {σ : zSt} (h : (zQ [3, 5, 6, 7, 8, 9, 21, 22, 23, 24, 25] [(0, 31, 33)] [4, 10, 11] [(0, 30, 30)]) σ0 σ) : zpc (fX12_data σ) (fun r => (zQ [3, 5, 6, 7, 8, 9, 21, 22, 23, 24, 25] [(0, 31, 33)] [4, 10, 11] [(0, 30, 30)]) σ0 (r.1)) := by
  unfold fX12_data
  exact zpc_ck (zpc_bv (fun v1 _ => zpc_ck (zpc_bs (zQ.wi h rfl) (fun σ2 hσ2 => zpc_ck (zpc_bi (fk_fX12_video8 hσ2) (fun σ3 v4 hσ3 => zpc_ck (zpc_bs (zQ.wi hσ3 rfl) (fun σ5 hσ5 => zpc_bu (fk_fX12_further hσ5) (fun σ6 hσ6 => zpc_some hσ6)))))))))
theorem fk_fX12_lineAt_45 {σ0 : zSt} {σ : zSt} {s0 : Int32} (h : (zQ [3, 5, 6, 7, 8, 9, 21, 22, 23, 24, 25] [(0, 31, 33)] [4, 10, 11] [(0, 30, 30)]) σ0 σ) : zpc (fX12_lineAt_45 σ s0) (fun r => (zQ [3, 5, 6, 7, 8, 9, 21, 22, 23, 24, 25] [(0, 31, 33)] [4, 10, 11] [(0, 30, 30)]) σ0 (r.1)) := by
  unfold fX12_lineAt_45
  exact zpc_some h
theorem fk_fX12_lineAt {σ0 : zSt} {σ : zSt} {x1 : Int32} (h : (zQ [3, 5, 6, 7, 8, 9, 21, 22, 23, 24, 25] [(0, 31, 33)] [4, 10, 11] [(0, 30, 30)]) σ0 σ) : zpc (fX12_lineAt σ x1) (fun r => (zQ [3, 5, 6, 7, 8, 9, 21, 22, 23, 24, 25] [(0, 31, 33)] [4, 10, 11] [(0, 30, 30)]) σ0 (r.1)) := by
  unfold fX12_lineAt
  exact zpc_ck (zpc_if (fun _ => zpc_ck (fk_fX12_lineAt_45 h)) (fun _ => zpc_ck (fk_fX12_lineAt_45 h)))
theorem fk_fX12_without_20 {σ0 : zSt} {σ : zSt} {s0 : Int32} (h : (zQ [3, 5, 6, 7, 8, 9, 21, 22, 23, 24, 25] [(0, 31, 33)] [4, 10, 11] [(0, 30, 30)]) σ0 σ) : zpc (fX12_without_20 σ s0) (fun r => (zQ [3, 5, 6, 7, 8, 9, 21, 22, 23, 24, 25] [(0, 31, 33)] [4, 10, 11] [(0, 30, 30)]) σ0 (r.1)) := by
  unfold fX12_without_20
  exact zpc_some h
theorem fk_fX12_without {σ0 : zSt} {σ : zSt} {x1 : Int32} {x2 : Int32} {x3 : Int32} (h : (zQ [3, 5, 6, 7, 8, 9, 21, 22, 23, 24, 25] [(0, 31, 33)] [4, 10, 11] [(0, 30, 30)]) σ0 σ) : zpc (fX12_without σ x1 x2 x3) (fun r => (zQ [3, 5, 6, 7, 8, 9, 21, 22, 23, 24, 25] [(0, 31, 33)] [4, 10, 11] [(0, 30, 30)]) σ0 (r.1)) := by
  unfold fX12_without
  exact zpc_if (fun _ => fk_fX12_without_20 h) (fun _ => fk_fX12_without_20 h)
theorem fk_fX12_port_32 {σ0 : zSt} {σ : zSt} (h : (zQ [3, 5, 6, 7, 8, 9, 21, 22, 23, 24, 25] [(0, 31, 33)] [4, 10, 11] [(0, 30, 30)]) σ0 σ) : zpc (fX12_port_32 σ) (fun r => (zQ [3, 5, 6, 7, 8, 9, 21, 22, 23, 24, 25] [(0, 31, 33)] [4, 10, 11] [(0, 30, 30)]) σ0 (r.1)) := by
  unfold fX12_port_32
  exact zpc_some h
theorem fk_fX12_port_73 {σ0 : zSt} {σ : zSt} {s0 : Int32} (h : (zQ [3, 5, 6, 7, 8, 9, 21, 22, 23, 24, 25] [(0, 31, 33)] [4, 10, 11] [(0, 30, 30)]) σ0 σ) : zpc (fX12_port_73 σ s0) (fun r => (zQ [3, 5, 6, 7, 8, 9, 21, 22, 23, 24, 25] [(0, 31, 33)] [4, 10, 11] [(0, 30, 30)]) σ0 (r.1)) := by
  unfold fX12_port_73
  exact zpc_some h
theorem fk_fX12_port_60 {σ0 : zSt} {σ : zSt} {s0 : Int32} {s1 : Int32} (h : (zQ [3, 5, 6, 7, 8, 9, 21, 22, 23, 24, 25] [(0, 31, 33)] [4, 10, 11] [(0, 30, 30)]) σ0 σ) : zpc (fX12_port_60 σ s0 s1) (fun r => (zQ [3, 5, 6, 7, 8, 9, 21, 22, 23, 24, 25] [(0, 31, 33)] [4, 10, 11] [(0, 30, 30)]) σ0 (r.1)) := by
  unfold fX12_port_60
  exact fk_fX12_port_73 h
theorem fk_fX12_port_99 {σ0 : zSt} {σ : zSt} {s0 : Int32} (h : (zQ [3, 5, 6, 7, 8, 9, 21, 22, 23, 24, 25] [(0, 31, 33)] [4, 10, 11] [(0, 30, 30)]) σ0 σ) : zpc (fX12_port_99 σ s0) (fun r => (zQ [3, 5, 6, 7, 8, 9, 21, 22, 23, 24, 25] [(0, 31, 33)] [4, 10, 11] [(0, 30, 30)]) σ0 (r.1)) := by
  unfold fX12_port_99
  exact zpc_some h
theorem fk_fX12_port_122 {σ0 : zSt} {σ : zSt} {s0 : Int32} (h : (zQ [3, 5, 6, 7, 8, 9, 21, 22, 23, 24, 25] [(0, 31, 33)] [4, 10, 11] [(0, 30, 30)]) σ0 σ) : zpc (fX12_port_122 σ s0) (fun r => (zQ [3, 5, 6, 7, 8, 9, 21, 22, 23, 24, 25] [(0, 31, 33)] [4, 10, 11] [(0, 30, 30)]) σ0 (r.1)) := by
  unfold fX12_port_122
  exact zpc_some h
theorem fk_fX12_port_230 {σ0 : zSt} {σ : zSt} {s0 : Int32} (h : (zQ [3, 5, 6, 7, 8, 9, 21, 22, 23, 24, 25] [(0, 31, 33)] [4, 10, 11] [(0, 30, 30)]) σ0 σ) : zpc (fX12_port_230 σ s0) (fun r => (zQ [3, 5, 6, 7, 8, 9, 21, 22, 23, 24, 25] [(0, 31, 33)] [4, 10, 11] [(0, 30, 30)]) σ0 (r.1)) := by
  unfold fX12_port_230
  exact zpc_some h
theorem fk_fX12_port_289 {σ0 : zSt} {σ : zSt} {s0 : Int32} (h : (zQ [3, 5, 6, 7, 8, 9, 21, 22, 23, 24, 25] [(0, 31, 33)] [4, 10, 11] [(0, 30, 30)]) σ0 σ) : zpc (fX12_port_289 σ s0) (fun r => (zQ [3, 5, 6, 7, 8, 9, 21, 22, 23, 24, 25] [(0, 31, 33)] [4, 10, 11] [(0, 30, 30)]) σ0 (r.1)) := by
  unfold fX12_port_289
  exact zpc_some h
theorem fk_fX12_port_147 {σ0 : zSt} {σ : zSt} {x2 : Int32} (h : (zQ [3, 5, 6, 7, 8, 9, 21, 22, 23, 24, 25] [(0, 31, 33)] [4, 10, 11] [(0, 30, 30)]) σ0 σ) : zpc (fX12_port_147 σ x2) (fun r => (zQ [3, 5, 6, 7, 8, 9, 21, 22, 23, 24, 25] [(0, 31, 33)] [4, 10, 11] [(0, 30, 30)]) σ0 (r.1)) := by
  unfold fX12_port_147
  exact zpc_if (fun _ => zpc_ck (zpc_ck (zpc_bv (fun v1 _ => zpc_ck (zpc_if (fun _ => zpc_ck (zpc_bi (fk_fX12_without h) (fun σ2 v3 hσ2 => fk_fX12_port_289 hσ2))) (fun _ => fk_fX12_port_289 h)))))) (fun _ => zpc_ck (zpc_bv (fun v4 _ => zpc_bi (fk_fX12_lineAt h) (fun σ5 v6 hσ5 => zpc_bi (fk_fX12_without hσ5) (fun σ7 v8 hσ7 => zpc_bi (fk_fX12_lineAt hσ7) (fun σ9 v10 hσ9 => zpc_bi (fk_fX12_without hσ9) (fun σ11 v12 hσ11 => zpc_ck (zpc_if (fun _ => zpc_ck (zpc_bi (fk_fX12_without hσ11) (fun σ13 v14 hσ13 => fk_fX12_port_230 hσ13))) (fun _ => fk_fX12_port_230 hσ11)))))))))
theorem fk_fX12_port_12 {σ0 : zSt} {σ : zSt} {x1 : Int32} {s0 : Int32} (h : (zQ [3, 5, 6, 7, 8, 9, 21, 22, 23, 24, 25] [(0, 31, 33)] [4, 10, 11] [(0, 30, 30)]) σ0 σ) : zpc (fX12_port_12 σ x1 s0) (fun r => (zQ [3, 5, 6, 7, 8, 9, 21, 22, 23, 24, 25] [(0, 31, 33)] [4, 10, 11] [(0, 30, 30)]) σ0 (r.1)) := by
  unfold fX12_port_12
  exact zpc_if (fun _ => zpc_if (fun _ => zpc_if (fun _ => zpc_if (fun _ => zpc_if (fun _ => fk_fX12_port_147 h) (fun _ => zpc_ck (zpc_some h))) (fun _ => fk_fX12_port_147 h)) (fun _ => zpc_if (fun _ => zpc_bi (fk_fX12_data h) (fun σ15 v16 hσ15 => fk_fX12_port_122 hσ15)) (fun _ => zpc_bi (fk_fX12_status h) (fun σ17 v18 hσ17 => fk_fX12_port_122 hσ17)))) (fun _ => zpc_if (fun _ => zpc_bi (fk_fX12_vCount h) (fun σ19 v20 hσ19 => fk_fX12_port_99 hσ19)) (fun _ => zpc_ck (fk_fX12_port_99 h)))) (fun _ => zpc_if (fun _ => zpc_if (fun _ => zpc_if (fun _ => zpc_ck (zpc_if (fun _ => fk_fX12_port_60 h) (fun _ => fk_fX12_port_60 h))) (fun _ => zpc_ck (fk_fX12_port_73 h))) (fun _ => fk_fX12_port_32 h)) (fun _ => fk_fX12_port_32 h))
theorem fk_fX12_port {σ0 : zSt} {σ : zSt} {x1 : Int32} (h : (zQ [3, 5, 6, 7, 8, 9, 21, 22, 23, 24, 25] [(0, 31, 33)] [4, 10, 11] [(0, 30, 30)]) σ0 σ) : zpc (fX12_port σ x1) (fun r => (zQ [3, 5, 6, 7, 8, 9, 21, 22, 23, 24, 25] [(0, 31, 33)] [4, 10, 11] [(0, 30, 30)]) σ0 (r.1)) := by
  unfold fX12_port
  exact zpc_ck (zpc_if (fun _ => fk_fX12_port_12 h) (fun _ => fk_fX12_port_12 h))
theorem fk_fX12_hCount_27 {σ0 : zSt} {σ : zSt} {s0 : Int32} (h : (zQ [3, 5, 6, 7, 8, 9, 21, 22, 23, 24, 25] [(0, 31, 33)] [4, 10, 11] [(0, 30, 30)]) σ0 σ) : zpc (fX12_hCount_27 σ s0) (fun r => (zQ [3, 5, 6, 7, 8, 9, 21, 22, 23, 24, 25] [(0, 31, 33)] [4, 10, 11] [(0, 30, 30)]) σ0 (r.1)) := by
  unfold fX12_hCount_27
  exact zpc_some h
theorem fk_fX12_hCount {σ0 : zSt} {σ : zSt} (h : (zQ [3, 5, 6, 7, 8, 9, 21, 22, 23, 24, 25] [(0, 31, 33)] [4, 10, 11] [(0, 30, 30)]) σ0 σ) : zpc (fX12_hCount σ) (fun r => (zQ [3, 5, 6, 7, 8, 9, 21, 22, 23, 24, 25] [(0, 31, 33)] [4, 10, 11] [(0, 30, 30)]) σ0 (r.1)) := by
  unfold fX12_hCount
  exact zpc_ck (zpc_ck (zpc_bv (fun v1 _ => zpc_if (fun _ => fk_fX12_hCount_27 h) (fun _ => fk_fX12_hCount_27 h))))
theorem fk_fX12_noise_141 {σ0 : zSt} {σ : zSt} (h : (zQ [3, 5, 6, 7, 8, 9, 21, 22, 23, 24, 25] [(0, 31, 33)] [4, 10, 11] [(0, 30, 30)]) σ0 σ) : zpc (fX12_noise_141 σ) (fun r => (zQ [3, 5, 6, 7, 8, 9, 21, 22, 23, 24, 25] [(0, 31, 33)] [4, 10, 11] [(0, 30, 30)]) σ0 (r)) := by
  unfold fX12_noise_141
  exact zpc_some h
theorem fk_fX12_noise_140 {σ0 : zSt} {σ : zSt} {s0 : Int32} {s1 : Int32} (h : (zQ [3, 5, 6, 7, 8, 9, 21, 22, 23, 24, 25] [(0, 31, 33)] [4, 10, 11] [(0, 30, 30)]) σ0 σ) : zpc (fX12_noise_140 σ s0 s1) (fun r => (zQ [3, 5, 6, 7, 8, 9, 21, 22, 23, 24, 25] [(0, 31, 33)] [4, 10, 11] [(0, 30, 30)]) σ0 (r)) := by
  unfold fX12_noise_140
  exact zpc_ck (zpc_bs (zQ.wi h rfl) (fun σ1 hσ1 => fk_fX12_noise_141 hσ1))
theorem fk_fX12_noise_19 {σ0 : zSt} {σ : zSt} {x1 : Int32} (h : (zQ [3, 5, 6, 7, 8, 9, 21, 22, 23, 24, 25] [(0, 31, 33)] [4, 10, 11] [(0, 30, 30)]) σ0 σ) : zpc (fX12_noise_19 σ x1) (fun r => (zQ [3, 5, 6, 7, 8, 9, 21, 22, 23, 24, 25] [(0, 31, 33)] [4, 10, 11] [(0, 30, 30)]) σ0 (r)) := by
  unfold fX12_noise_19
  exact zpc_ck (zpc_ck (zpc_bv (fun v2 _ => zpc_ck (zpc_ck (zpc_if (fun _ => zpc_ck (zpc_bs (zQ.wi h rfl) (fun σ5 hσ5 => fk_fX12_noise_141 hσ5))) (fun _ => zpc_if (fun _ => zpc_ck (zpc_bs (zQ.wi h rfl) (fun σ3 hσ3 => zpc_ck (zpc_bs (zQ.wi hσ3 rfl) (fun σ4 hσ4 => fk_fX12_noise_141 hσ4))))) (fun _ => zpc_if (fun _ => zpc_ck (fk_fX12_noise_140 h)) (fun _ => zpc_ck (fk_fX12_noise_140 h)))))))))
theorem fk_fX12_noise {σ0 : zSt} {σ : zSt} {x1 : Int32} (h : (zQ [3, 5, 6, 7, 8, 9, 21, 22, 23, 24, 25] [(0, 31, 33)] [4, 10, 11] [(0, 30, 30)]) σ0 σ) : zpc (fX12_noise σ x1) (fun r => (zQ [3, 5, 6, 7, 8, 9, 21, 22, 23, 24, 25] [(0, 31, 33)] [4, 10, 11] [(0, 30, 30)]) σ0 (r)) := by
  unfold fX12_noise
  exact zpc_if (fun _ => fk_fX12_noise_19 h) (fun _ => zpc_ck (zpc_bs (zQ.wi h rfl) (fun σ6 hσ6 => fk_fX12_noise_19 hσ6)))
theorem fk_fX12_control_162 {σ0 : zSt} {σ : zSt} (h : (zQ [3, 5, 6, 7, 8, 9, 21, 22, 23, 24, 25] [(0, 31, 33)] [4, 10, 11] [(0, 30, 30)]) σ0 σ) : zpc (fX12_control_162 σ) (fun r => (zQ [3, 5, 6, 7, 8, 9, 21, 22, 23, 24, 25] [(0, 31, 33)] [4, 10, 11] [(0, 30, 30)]) σ0 (r)) := by
  unfold fX12_control_162
  exact zpc_some h
theorem fk_fX12_control {σ0 : zSt} {σ : zSt} {x1 : Int32} (h : (zQ [3, 5, 6, 7, 8, 9, 21, 22, 23, 24, 25] [(0, 31, 33)] [4, 10, 11] [(0, 30, 30)]) σ0 σ) : zpc (fX12_control σ x1) (fun r => (zQ [3, 5, 6, 7, 8, 9, 21, 22, 23, 24, 25] [(0, 31, 33)] [4, 10, 11] [(0, 30, 30)]) σ0 (r)) := by
  unfold fX12_control
  exact zpc_ck (zpc_if (fun _ => zpc_ck (zpc_ck (zpc_bs (zQ.wi h rfl) (fun σ9 hσ9 => zpc_ck (zpc_bs (zQ.wi hσ9 rfl) (fun σ10 hσ10 => zpc_some hσ10)))))) (fun _ => zpc_ck (zpc_bs (zQ.wi h rfl) (fun σ1 hσ1 => zpc_ck (zpc_ck (zpc_bs (zQ.wi hσ1 rfl) (fun σ2 hσ2 => zpc_ck (zpc_bs (zQ.wi hσ2 rfl) (fun σ3 hσ3 => zpc_ck (zpc_if (fun _ => zpc_ck (zpc_bi (fk_fX12_video8 hσ3) (fun σ5 v6 hσ5 => zpc_ck (zpc_bs (zQ.wi hσ5 rfl) (fun σ7 hσ7 => zpc_bu (fk_fX12_further hσ7) (fun σ8 hσ8 => fk_fX12_control_162 hσ8)))))) (fun _ => zpc_ck (zpc_if (fun _ => zpc_ck (zpc_if (fun _ => fk_fX12_control_162 hσ3) (fun _ => zpc_ck (zpc_ck (zpc_ck (zpc_bs (zQ.wi hσ3 rfl) (fun σ4 hσ4 => fk_fX12_control_162 hσ4))))))) (fun _ => fk_fX12_control_162 hσ3)))))))))))))
theorem fk_fX12_dataTo_115 {σ0 : zSt} {σ : zSt} (h : (zQ [3, 5, 6, 7, 8, 9, 21, 22, 23, 24, 25] [(0, 31, 33)] [4, 10, 11] [(0, 30, 30)]) σ0 σ) : zpc (fX12_dataTo_115 σ) (fun r => (zQ [3, 5, 6, 7, 8, 9, 21, 22, 23, 24, 25] [(0, 31, 33)] [4, 10, 11] [(0, 30, 30)]) σ0 (r)) := by
  unfold fX12_dataTo_115
  exact zpc_bu (fk_fX12_further h) (fun σ1 hσ1 => zpc_some hσ1)
theorem fk_fX12_dataTo {σ0 : zSt} {σ : zSt} {x1 : Int32} (h : (zQ [3, 5, 6, 7, 8, 9, 21, 22, 23, 24, 25] [(0, 31, 33)] [4, 10, 11] [(0, 30, 30)]) σ0 σ) : zpc (fX12_dataTo σ x1) (fun r => (zQ [3, 5, 6, 7, 8, 9, 21, 22, 23, 24, 25] [(0, 31, 33)] [4, 10, 11] [(0, 30, 30)]) σ0 (r)) := by
  unfold fX12_dataTo
  exact zpc_ck (zpc_bs (zQ.wi h rfl) (fun σ2 hσ2 => zpc_ck (zpc_bs (zQ.wi hσ2 rfl) (fun σ3 hσ3 => zpc_ck (zpc_bv (fun v4 _ => zpc_ck (zpc_if (fun _ => zpc_if (fun _ => zpc_ck (zpc_if (fun _ => zpc_ck (zpc_bs (zQ.wi hσ3 rfl) (fun σ7 hσ7 => fk_fX12_dataTo_115 hσ7))) (fun _ => zpc_ck (zpc_ck (zpc_ck (zpc_bs (zQ.wi hσ3 rfl) (fun σ5 hσ5 => zpc_ck (zpc_ck (zpc_bs (zQ.wi hσ5 rfl) (fun σ6 hσ6 => fk_fX12_dataTo_115 hσ6)))))))))) (fun _ => zpc_ck (zpc_ck (zpc_bs (zQ.wi hσ3 rfl) (fun σ8 hσ8 => fk_fX12_dataTo_115 hσ8))))) (fun _ => zpc_ck (zpc_bs (zQ.wi hσ3 rfl) (fun σ9 hσ9 => fk_fX12_dataTo_115 hσ9))))))))))
theorem fk_fX12_portTo_267 {σ0 : zSt} {σ : zSt} (h : (zQ [3, 5, 6, 7, 8, 9, 21, 22, 23, 24, 25] [(0, 31, 33)] [4, 10, 11] [(0, 30, 30)]) σ0 σ) : zpc (fX12_portTo_267 σ) (fun r => (zQ [3, 5, 6, 7, 8, 9, 21, 22, 23, 24, 25] [(0, 31, 33)] [4, 10, 11] [(0, 30, 30)]) σ0 (r)) := by
  unfold fX12_portTo_267
  exact zpc_some h
theorem fk_fX12_portTo_140 {σ0 : zSt} {σ : zSt} (h : (zQ [3, 5, 6, 7, 8, 9, 21, 22, 23, 24, 25] [(0, 31, 33)] [4, 10, 11] [(0, 30, 30)]) σ0 σ) : zpc (fX12_portTo_140 σ) (fun r => (zQ [3, 5, 6, 7, 8, 9, 21, 22, 23, 24, 25] [(0, 31, 33)] [4, 10, 11] [(0, 30, 30)]) σ0 (r)) := by
  unfold fX12_portTo_140
  exact fk_fX12_portTo_267 h
theorem fk_fX12_portTo_129 {σ0 : zSt} {σ : zSt} (h : (zQ [3, 5, 6, 7, 8, 9, 21, 22, 23, 24, 25] [(0, 31, 33)] [4, 10, 11] [(0, 30, 30)]) σ0 σ) : zpc (fX12_portTo_129 σ) (fun r => (zQ [3, 5, 6, 7, 8, 9, 21, 22, 23, 24, 25] [(0, 31, 33)] [4, 10, 11] [(0, 30, 30)]) σ0 (r)) := by
  unfold fX12_portTo_129
  exact zpc_bi (fk_fX12_hCount h) (fun σ1 v2 hσ1 => zpc_ck (zpc_bs (zQ.wi hσ1 rfl) (fun σ3 hσ3 => fk_fX12_portTo_140 hσ3)))
theorem fk_fX12_portTo_115 {σ0 : zSt} {σ : zSt} {x5 : Int32} (h : (zQ [3, 5, 6, 7, 8, 9, 21, 22, 23, 24, 25] [(0, 31, 33)] [4, 10, 11] [(0, 30, 30)]) σ0 σ) : zpc (fX12_portTo_115 σ x5) (fun r => (zQ [3, 5, 6, 7, 8, 9, 21, 22, 23, 24, 25] [(0, 31, 33)] [4, 10, 11] [(0, 30, 30)]) σ0 (r)) := by
  unfold fX12_portTo_115
  exact zpc_if (fun _ => zpc_bi (fk_fX12_lineAt h) (fun σ4 v5 hσ4 => zpc_if (fun _ => fk_fX12_portTo_129 hσ4) (fun _ => fk_fX12_portTo_140 hσ4))) (fun _ => fk_fX12_portTo_140 h)
theorem fk_fX12_portTo_75 {σ0 : zSt} {σ : zSt} {x2 : Int32} {x3 : Int32} (h : (zQ [3, 5, 6, 7, 8, 9, 21, 22, 23, 24, 25] [(0, 31, 33)] [4, 10, 11] [(0, 30, 30)]) σ0 σ) : zpc (fX12_portTo_75 σ x2 x3) (fun r => (zQ [3, 5, 6, 7, 8, 9, 21, 22, 23, 24, 25] [(0, 31, 33)] [4, 10, 11] [(0, 30, 30)]) σ0 (r)) := by
  unfold fX12_portTo_75
  exact zpc_if (fun _ => fk_fX12_portTo_267 h) (fun _ => zpc_bi (fk_fX12_lineAt h) (fun σ6 v7 hσ6 => zpc_bi (fk_fX12_lineAt hσ6) (fun σ8 v9 hσ8 => zpc_ck (zpc_bs (zQ.wi hσ8 rfl) (fun σ10 hσ10 => zpc_if (fun _ => zpc_bi (fk_fX12_lineAt hσ10) (fun σ11 v12 hσ11 => zpc_if (fun _ => fk_fX12_portTo_129 hσ11) (fun _ => fk_fX12_portTo_115 hσ11))) (fun _ => fk_fX12_portTo_115 hσ10))))))
theorem fk_fX12_portTo_50 {σ0 : zSt} {σ : zSt} {x1 : Int32} {x2 : Int32} {x3 : Int32} (h : (zQ [3, 5, 6, 7, 8, 9, 21, 22, 23, 24, 25] [(0, 31, 33)] [4, 10, 11] [(0, 30, 30)]) σ0 σ) : zpc (fX12_portTo_50 σ x1 x2 x3) (fun r => (zQ [3, 5, 6, 7, 8, 9, 21, 22, 23, 24, 25] [(0, 31, 33)] [4, 10, 11] [(0, 30, 30)]) σ0 (r)) := by
  unfold fX12_portTo_50
  exact zpc_if (fun _ => zpc_if (fun _ => zpc_ck (zpc_bs (zQ.wi h rfl) (fun σ13 hσ13 => fk_fX12_portTo_267 hσ13))) (fun _ => fk_fX12_portTo_75 h)) (fun _ => fk_fX12_portTo_75 h)
theorem fk_fX12_portTo_12 {σ0 : zSt} {σ : zSt} {x1 : Int32} {x2 : Int32} {s0 : Int32} (h : (zQ [3, 5, 6, 7, 8, 9, 21, 22, 23, 24, 25] [(0, 31, 33)] [4, 10, 11] [(0, 30, 30)]) σ0 σ) : zpc (fX12_portTo_12 σ x1 x2 s0) (fun r => (zQ [3, 5, 6, 7, 8, 9, 21, 22, 23, 24, 25] [(0, 31, 33)] [4, 10, 11] [(0, 30, 30)]) σ0 (r)) := by
  unfold fX12_portTo_12
  exact zpc_if (fun _ => zpc_if (fun _ => zpc_if (fun _ => zpc_if (fun _ => fk_fX12_portTo_267 h) (fun _ => zpc_if (fun _ => fk_fX12_portTo_267 h) (fun _ => zpc_if (fun _ => fk_fX12_portTo_267 h) (fun _ => zpc_if (fun _ => zpc_ck (zpc_ck (zpc_bs (zQ.wi h rfl) (fun σ16 hσ16 => fk_fX12_portTo_267 hσ16)))) (fun _ => zpc_if (fun _ => zpc_ck (zpc_ck (zpc_bs (zQ.wi h rfl) (fun σ15 hσ15 => fk_fX12_portTo_267 hσ15)))) (fun _ => zpc_ck (zpc_ck (zpc_bs (zQ.wi h rfl) (fun σ14 hσ14 => fk_fX12_portTo_267 hσ14))))))))) (fun _ => zpc_if (fun _ => zpc_bu (fk_fX12_dataTo h) (fun σ17 hσ17 => fk_fX12_portTo_267 hσ17)) (fun _ => zpc_bu (fk_fX12_control h) (fun σ18 hσ18 => fk_fX12_portTo_267 hσ18)))) (fun _ => zpc_bu (fk_fX12_noise h) (fun σ19 hσ19 => fk_fX12_portTo_267 hσ19))) (fun _ => zpc_if (fun _ => zpc_if (fun _ => fk_fX12_portTo_50 h) (fun _ => zpc_if (fun _ => fk_fX12_portTo_50 h) (fun _ => zpc_ck (zpc_bs (zQ.wi h rfl) (fun σ20 hσ20 => fk_fX12_portTo_267 hσ20))))) (fun _ => fk_fX12_portTo_50 h))
theorem fk_fX12_portTo {σ0 : zSt} {σ : zSt} {x1 : Int32} {x2 : Int32} (h : (zQ [3, 5, 6, 7, 8, 9, 21, 22, 23, 24, 25] [(0, 31, 33)] [4, 10, 11] [(0, 30, 30)]) σ0 σ) : zpc (fX12_portTo σ x1 x2) (fun r => (zQ [3, 5, 6, 7, 8, 9, 21, 22, 23, 24, 25] [(0, 31, 33)] [4, 10, 11] [(0, 30, 30)]) σ0 (r)) := by
  unfold fX12_portTo
  exact zpc_ck (zpc_if (fun _ => fk_fX12_portTo_12 h) (fun _ => fk_fX12_portTo_12 h))
theorem fk_fX12_turned_118 {σ0 : zSt} {σ : zSt} {s0 : Int32} (h : (zQ [3, 5, 6, 7, 8, 9, 21, 22, 23, 24, 25] [(0, 31, 33)] [4, 10, 11] [(0, 30, 30)]) σ0 σ) : zpc (fX12_turned_118 σ s0) (fun r => (zQ [3, 5, 6, 7, 8, 9, 21, 22, 23, 24, 25] [(0, 31, 33)] [4, 10, 11] [(0, 30, 30)]) σ0 (r.1)) := by
  unfold fX12_turned_118
  exact zpc_some h
theorem fk_fX12_turned_89 {σ0 : zSt} {σ : zSt} {x2 : Int32} {x3 : Int32} {x5 : Int32} {s0 : Int32} {s1 : Int32} (h : (zQ [3, 5, 6, 7, 8, 9, 21, 22, 23, 24, 25] [(0, 31, 33)] [4, 10, 11] [(0, 30, 30)]) σ0 σ) : zpc (fX12_turned_89 σ x2 x3 x5 s0 s1) (fun r => (zQ [3, 5, 6, 7, 8, 9, 21, 22, 23, 24, 25] [(0, 31, 33)] [4, 10, 11] [(0, 30, 30)]) σ0 (r.1)) := by
  unfold fX12_turned_89
  exact zpc_bu (fk_fX12_put h) (fun σ1 hσ1 => zpc_if (fun _ => fk_fX12_turned_118 hσ1) (fun _ => fk_fX12_turned_118 hσ1))
theorem fk_fX12_turned_74 {σ0 : zSt} {σ : zSt} {x2 : Int32} {x3 : Int32} {x4 : Int32} {s0 : Int32} (h : (zQ [3, 5, 6, 7, 8, 9, 21, 22, 23, 24, 25] [(0, 31, 33)] [4, 10, 11] [(0, 30, 30)]) σ0 σ) : zpc (fX12_turned_74 σ x2 x3 x4 s0) (fun r => (zQ [3, 5, 6, 7, 8, 9, 21, 22, 23, 24, 25] [(0, 31, 33)] [4, 10, 11] [(0, 30, 30)]) σ0 (r.1)) := by
  unfold fX12_turned_74
  exact zpc_if (fun _ => fk_fX12_turned_89 h) (fun _ => fk_fX12_turned_89 h)
theorem fk_fX12_turned_26 {σ0 : zSt} {σ : zSt} {x1 : Int32} {x2 : Int32} {x3 : Int32} {s0 : Int32} (h : (zQ [3, 5, 6, 7, 8, 9, 21, 22, 23, 24, 25] [(0, 31, 33)] [4, 10, 11] [(0, 30, 30)]) σ0 σ) : zpc (fX12_turned_26 σ x1 x2 x3 s0) (fun r => (zQ [3, 5, 6, 7, 8, 9, 21, 22, 23, 24, 25] [(0, 31, 33)] [4, 10, 11] [(0, 30, 30)]) σ0 (r.1)) := by
  unfold fX12_turned_26
  exact zpc_if (fun _ => zpc_if (fun _ => zpc_if (fun _ => fk_fX12_turned_74 h) (fun _ => zpc_if (fun _ => fk_fX12_turned_74 h) (fun _ => fk_fX12_turned_74 h))) (fun _ => zpc_bi (fk_fX12_flag h) (fun σ2 v3 hσ2 => fk_fX12_turned_74 hσ2))) (fun _ => fk_fX12_turned_74 h)
theorem fk_fX12_turned_11 {σ0 : zSt} {σ : zSt} {x1 : Int32} {x2 : Int32} {s0 : Int32} (h : (zQ [3, 5, 6, 7, 8, 9, 21, 22, 23, 24, 25] [(0, 31, 33)] [4, 10, 11] [(0, 30, 30)]) σ0 σ) : zpc (fX12_turned_11 σ x1 x2 s0) (fun r => (zQ [3, 5, 6, 7, 8, 9, 21, 22, 23, 24, 25] [(0, 31, 33)] [4, 10, 11] [(0, 30, 30)]) σ0 (r.1)) := by
  unfold fX12_turned_11
  exact zpc_if (fun _ => fk_fX12_turned_26 h) (fun _ => fk_fX12_turned_26 h)
theorem fk_fX12_turned {σ0 : zSt} {σ : zSt} {x1 : Int32} {x2 : Int32} (h : (zQ [3, 5, 6, 7, 8, 9, 21, 22, 23, 24, 25] [(0, 31, 33)] [4, 10, 11] [(0, 30, 30)]) σ0 σ) : zpc (fX12_turned σ x1 x2) (fun r => (zQ [3, 5, 6, 7, 8, 9, 21, 22, 23, 24, 25] [(0, 31, 33)] [4, 10, 11] [(0, 30, 30)]) σ0 (r.1)) := by
  unfold fX12_turned
  exact zpc_ck (zpc_if (fun _ => fk_fX12_turned_11 h) (fun _ => fk_fX12_turned_11 h))
theorem fk_fX12_turn_122 {σ0 : zSt} {σ : zSt} {s0 : Int32} (h : (zQ [3, 5, 6, 7, 8, 9, 21, 22, 23, 24, 25] [(0, 31, 33)] [4, 10, 11] [(0, 30, 30)]) σ0 σ) : zpc (fX12_turn_122 σ s0) (fun r => (zQ [3, 5, 6, 7, 8, 9, 21, 22, 23, 24, 25] [(0, 31, 33)] [4, 10, 11] [(0, 30, 30)]) σ0 (r.1)) := by
  unfold fX12_turn_122
  exact zpc_some h
theorem fk_fX12_turn_106 {σ0 : zSt} {σ : zSt} {x3 : Int32} {s0 : Int32} (h : (zQ [3, 5, 6, 7, 8, 9, 21, 22, 23, 24, 25] [(0, 31, 33)] [4, 10, 11] [(0, 30, 30)]) σ0 σ) : zpc (fX12_turn_106 σ x3 s0) (fun r => (zQ [3, 5, 6, 7, 8, 9, 21, 22, 23, 24, 25] [(0, 31, 33)] [4, 10, 11] [(0, 30, 30)]) σ0 (r.1)) := by
  unfold fX12_turn_106
  exact zpc_bu (fk_fX12_xy h) (fun σ1 hσ1 => zpc_if (fun _ => fk_fX12_turn_122 hσ1) (fun _ => fk_fX12_turn_122 hσ1))
theorem fk_fX12_turn_69 {σ0 : zSt} {σ : zSt} {x3 : Int32} {x4 : Int32} {s0 : Int32} {s1 : Int32} (h : (zQ [3, 5, 6, 7, 8, 9, 21, 22, 23, 24, 25] [(0, 31, 33)] [4, 10, 11] [(0, 30, 30)]) σ0 σ) : zpc (fX12_turn_69 σ x3 x4 s0 s1) (fun r => (zQ [3, 5, 6, 7, 8, 9, 21, 22, 23, 24, 25] [(0, 31, 33)] [4, 10, 11] [(0, 30, 30)]) σ0 (r.1)) := by
  unfold fX12_turn_69
  exact zpc_bu (fk_fX12_put h) (fun σ2 hσ2 => zpc_bu (fk_fX12_put hσ2) (fun σ3 hσ3 => zpc_bu (fk_fX12_put hσ3) (fun σ4 hσ4 => zpc_if (fun _ => zpc_ck (fk_fX12_turn_106 hσ4)) (fun _ => fk_fX12_turn_106 hσ4))))
theorem fk_fX12_turn_219 {σ0 : zSt} {σ : zSt} {s0 : Int32} (h : (zQ [3, 5, 6, 7, 8, 9, 21, 22, 23, 24, 25] [(0, 31, 33)] [4, 10, 11] [(0, 30, 30)]) σ0 σ) : zpc (fX12_turn_219 σ s0) (fun r => (zQ [3, 5, 6, 7, 8, 9, 21, 22, 23, 24, 25] [(0, 31, 33)] [4, 10, 11] [(0, 30, 30)]) σ0 (r.1)) := by
  unfold fX12_turn_219
  exact zpc_some h
theorem fk_fX12_turn_193 {σ0 : zSt} {σ : zSt} {x3 : Int32} {x4 : Int32} (h : (zQ [3, 5, 6, 7, 8, 9, 21, 22, 23, 24, 25] [(0, 31, 33)] [4, 10, 11] [(0, 30, 30)]) σ0 σ) : zpc (fX12_turn_193 σ x3 x4) (fun r => (zQ [3, 5, 6, 7, 8, 9, 21, 22, 23, 24, 25] [(0, 31, 33)] [4, 10, 11] [(0, 30, 30)]) σ0 (r.1)) := by
  unfold fX12_turn_193
  exact zpc_bu (fk_fX12_rTo h) (fun σ5 hσ5 => zpc_bs (zQ.wi hσ5 rfl) (fun σ6 hσ6 => zpc_if (fun _ => fk_fX12_turn_219 hσ6) (fun _ => fk_fX12_turn_219 hσ6)))
theorem fk_fX12_turn_191 {σ0 : zSt} {σ : zSt} {x3 : Int32} {s0 : Int32} (h : (zQ [3, 5, 6, 7, 8, 9, 21, 22, 23, 24, 25] [(0, 31, 33)] [4, 10, 11] [(0, 30, 30)]) σ0 σ) : zpc (fX12_turn_191 σ x3 s0) (fun r => (zQ [3, 5, 6, 7, 8, 9, 21, 22, 23, 24, 25] [(0, 31, 33)] [4, 10, 11] [(0, 30, 30)]) σ0 (r.1)) := by
  unfold fX12_turn_191
  exact fk_fX12_turn_193 h
theorem fk_fX12_turn_23 {σ0 : zSt} {σ : zSt} {x1 : Int32} {x2 : Int32} {s0 : Int32} (h : (zQ [3, 5, 6, 7, 8, 9, 21, 22, 23, 24, 25] [(0, 31, 33)] [4, 10, 11] [(0, 30, 30)]) σ0 σ) : zpc (fX12_turn_23 σ x1 x2 s0) (fun r => (zQ [3, 5, 6, 7, 8, 9, 21, 22, 23, 24, 25] [(0, 31, 33)] [4, 10, 11] [(0, 30, 30)]) σ0 (r.1)) := by
  unfold fX12_turn_23
  exact zpc_bi (fk_fX12_r h) (fun σ7 v8 hσ7 => zpc_bv (fun v9 _ => zpc_if (fun _ => zpc_bv (fun v18 _ => zpc_bu (fk_fX12_by hσ7) (fun σ19 hσ19 => zpc_if (fun _ => fk_fX12_turn_69 hσ19) (fun _ => fk_fX12_turn_69 hσ19)))) (fun _ => zpc_if (fun _ => zpc_bi (fk_fX12_turned hσ7) (fun σ10 v11 hσ10 => zpc_bu (fk_fX12_by hσ10) (fun σ12 hσ12 => zpc_bi (fk_fX12_isEven hσ12) (fun σ13 v14 hσ13 => zpc_bu (fk_fX12_put hσ13) (fun σ15 hσ15 => zpc_bu (fk_fX12_put hσ15) (fun σ16 hσ16 => zpc_bu (fk_fX12_put hσ16) (fun σ17 hσ17 => fk_fX12_turn_193 hσ17))))))) (fun _ => zpc_if (fun _ => fk_fX12_turn_191 hσ7) (fun _ => fk_fX12_turn_191 hσ7)))))
theorem fk_fX12_turn {σ0 : zSt} {σ : zSt} {x1 : Int32} (h : (zQ [3, 5, 6, 7, 8, 9, 21, 22, 23, 24, 25] [(0, 31, 33)] [4, 10, 11] [(0, 30, 30)]) σ0 σ) : zpc (fX12_turn σ x1) (fun r => (zQ [3, 5, 6, 7, 8, 9, 21, 22, 23, 24, 25] [(0, 31, 33)] [4, 10, 11] [(0, 30, 30)]) σ0 (r.1)) := by
  unfold fX12_turn
  exact zpc_bv (fun v20 _ => zpc_if (fun _ => fk_fX12_turn_23 h) (fun _ => fk_fX12_turn_23 h))
theorem fk_fX12_turns {σ0 : zSt} {σ : zSt} (h : (zQ [3, 5, 6, 7, 8, 9, 21, 22, 23, 24, 25] [(0, 31, 33)] [4, 10, 11] [(0, 30, 30)]) σ0 σ) : zpc (fX12_turns σ) (fun r => (zQ [3, 5, 6, 7, 8, 9, 21, 22, 23, 24, 25] [(0, 31, 33)] [4, 10, 11] [(0, 30, 30)]) σ0 (r.1)) := by
  unfold fX12_turns
  exact zpc_bi (fk_fX12_fetch h) (fun σ1 v2 hσ1 => zpc_bi (fk_fX12_turn hσ1) (fun σ3 v4 hσ3 => zpc_some hσ3))
theorem fk_fX12_three_200 {σ0 : zSt} {σ : zSt} {s0 : Int32} (h : (zQ [3, 5, 6, 7, 8, 9, 21, 22, 23, 24, 25] [(0, 31, 33)] [4, 10, 11] [(0, 30, 30)]) σ0 σ) : zpc (fX12_three_200 σ s0) (fun r => (zQ [3, 5, 6, 7, 8, 9, 21, 22, 23, 24, 25] [(0, 31, 33)] [4, 10, 11] [(0, 30, 30)]) σ0 (r.1)) := by
  unfold fX12_three_200
  exact zpc_some h
theorem fk_fX12_three_189 {σ0 : zSt} {σ : zSt} {x3 : Int32} (h : (zQ [3, 5, 6, 7, 8, 9, 21, 22, 23, 24, 25] [(0, 31, 33)] [4, 10, 11] [(0, 30, 30)]) σ0 σ) : zpc (fX12_three_189 σ x3) (fun r => (zQ [3, 5, 6, 7, 8, 9, 21, 22, 23, 24, 25] [(0, 31, 33)] [4, 10, 11] [(0, 30, 30)]) σ0 (r.1)) := by
  unfold fX12_three_189
  exact zpc_if (fun _ => fk_fX12_three_200 h) (fun _ => fk_fX12_three_200 h)
theorem fk_fX12_three_173 {σ0 : zSt} {σ : zSt} {x3 : Int32} (h : (zQ [3, 5, 6, 7, 8, 9, 21, 22, 23, 24, 25] [(0, 31, 33)] [4, 10, 11] [(0, 30, 30)]) σ0 σ) : zpc (fX12_three_173 σ x3) (fun r => (zQ [3, 5, 6, 7, 8, 9, 21, 22, 23, 24, 25] [(0, 31, 33)] [4, 10, 11] [(0, 30, 30)]) σ0 (r.1)) := by
  unfold fX12_three_173
  exact zpc_if (fun _ => zpc_bi (fk_fX12_hl h) (fun σ1 v2 hσ1 => zpc_ck (zpc_bs (zQ.wi hσ1 rfl) (fun σ3 hσ3 => fk_fX12_three_189 hσ3)))) (fun _ => fk_fX12_three_189 h)
theorem fk_fX12_three_157 {σ0 : zSt} {σ : zSt} {x3 : Int32} (h : (zQ [3, 5, 6, 7, 8, 9, 21, 22, 23, 24, 25] [(0, 31, 33)] [4, 10, 11] [(0, 30, 30)]) σ0 σ) : zpc (fX12_three_157 σ x3) (fun r => (zQ [3, 5, 6, 7, 8, 9, 21, 22, 23, 24, 25] [(0, 31, 33)] [4, 10, 11] [(0, 30, 30)]) σ0 (r.1)) := by
  unfold fX12_three_157
  exact zpc_if (fun _ => zpc_bi (fk_fX12_hl h) (fun σ4 v5 hσ4 => zpc_ck (zpc_bs (zQ.wi hσ4 rfl) (fun σ6 hσ6 => fk_fX12_three_173 hσ6)))) (fun _ => fk_fX12_three_173 h)
theorem fk_fX12_three_128_body {σ0 : zSt} {k128 : zSt → Int32 → Int32 → Option (zSt × Int32)} (hk128 : ∀ (y0 : zSt) (y1 : Int32) (y2 : Int32), (zQ [3, 5, 6, 7, 8, 9, 21, 22, 23, 24, 25] [(0, 31, 33)] [4, 10, 11] [(0, 30, 30)]) σ0 y0 → zpc (k128 y0 y1 y2) (fun r => (zQ [3, 5, 6, 7, 8, 9, 21, 22, 23, 24, 25] [(0, 31, 33)] [4, 10, 11] [(0, 30, 30)]) σ0 (r.1))) {σ : zSt} {x3 : Int32} {x4 : Int32} (h : (zQ [3, 5, 6, 7, 8, 9, 21, 22, 23, 24, 25] [(0, 31, 33)] [4, 10, 11] [(0, 30, 30)]) σ0 σ) : zpc (fX12_three_128_body k128 σ x3 x4) (fun r => (zQ [3, 5, 6, 7, 8, 9, 21, 22, 23, 24, 25] [(0, 31, 33)] [4, 10, 11] [(0, 30, 30)]) σ0 (r.1)) := by
  unfold fX12_three_128_body
  exact zpc_if (fun _ => zpc_if (fun _ => fk_fX12_three_157 h) (fun _ => zpc_bu (fk_fX12_change h) (fun σ7 hσ7 => zpc_bv (fun v8 _ => hk128 _ _ _ hσ7)))) (fun _ => fk_fX12_three_157 h)
theorem fk_fX12_three_128 {σ0 : zSt} : ∀ (n : Nat) (y0 : zSt) (y1 : Int32) (y2 : Int32), (zQ [3, 5, 6, 7, 8, 9, 21, 22, 23, 24, 25] [(0, 31, 33)] [4, 10, 11] [(0, 30, 30)]) σ0 y0 → zpc (fX12_three_128 n y0 y1 y2) (fun r => (zQ [3, 5, 6, 7, 8, 9, 21, 22, 23, 24, 25] [(0, 31, 33)] [4, 10, 11] [(0, 30, 30)]) σ0 (r.1)) := by
  intro n
  induction n with
  | zero => intro y0 y1 y2 h; exact zpc_none
  | succ n ih => intro y0 y1 y2 h; exact fk_fX12_three_128_body ih h
theorem fk_fX12_three_239 {σ0 : zSt} {σ : zSt} (h : (zQ [3, 5, 6, 7, 8, 9, 21, 22, 23, 24, 25] [(0, 31, 33)] [4, 10, 11] [(0, 30, 30)]) σ0 σ) : zpc (fX12_three_239 σ) (fun r => (zQ [3, 5, 6, 7, 8, 9, 21, 22, 23, 24, 25] [(0, 31, 33)] [4, 10, 11] [(0, 30, 30)]) σ0 (r.1)) := by
  unfold fX12_three_239
  exact zpc_some h
theorem fk_fX12_three_502 {σ0 : zSt} {σ : zSt} (h : (zQ [3, 5, 6, 7, 8, 9, 21, 22, 23, 24, 25] [(0, 31, 33)] [4, 10, 11] [(0, 30, 30)]) σ0 σ) : zpc (fX12_three_502 σ) (fun r => (zQ [3, 5, 6, 7, 8, 9, 21, 22, 23, 24, 25] [(0, 31, 33)] [4, 10, 11] [(0, 30, 30)]) σ0 (r.1)) := by
  unfold fX12_three_502
  exact zpc_some h
theorem fk_fX12_three_88 {σ0 : zSt} {σ : zSt} {x1 : Int32} {x2 : Int32} {x3 : Int32} (h : (zQ [3, 5, 6, 7, 8, 9, 21, 22, 23, 24, 25] [(0, 31, 33)] [4, 10, 11] [(0, 30, 30)]) σ0 σ) : zpc (fX12_three_88 σ x1 x2 x3) (fun r => (zQ [3, 5, 6, 7, 8, 9, 21, 22, 23, 24, 25] [(0, 31, 33)] [4, 10, 11] [(0, 30, 30)]) σ0 (r.1)) := by
  unfold fX12_three_88
  exact zpc_if (fun _ => zpc_if (fun _ => zpc_bi (fk_fX12_pop h) (fun σ43 v44 hσ43 => zpc_ck (zpc_bs (zQ.wi hσ43 rfl) (fun σ45 hσ45 => zpc_ck (zpc_ck (zpc_bs (zQ.wi hσ45 rfl) (fun σ46 hσ46 => zpc_some hσ46))))))) (fun _ => fk_fX12_three_128 _ _ _ _ h)) (fun _ => zpc_if (fun _ => zpc_bi (fk_fX12_nextWord h) (fun σ37 v38 hσ37 => zpc_ck (zpc_bs (zQ.wi hσ37 rfl) (fun σ39 hσ39 => zpc_bi (fk_fX12_cc hσ39) (fun σ40 v41 hσ40 => zpc_if (fun _ => fk_fX12_three_239 hσ40) (fun _ => zpc_ck (zpc_ck (zpc_bs (zQ.wi hσ40 rfl) (fun σ42 hσ42 => fk_fX12_three_239 hσ42))))))))) (fun _ => zpc_if (fun _ => zpc_bi (fk_fX12_nextWord h) (fun σ9 v10 hσ9 => zpc_ck (zpc_bs (zQ.wi hσ9 rfl) (fun σ11 hσ11 => zpc_ck (zpc_ck (zpc_bs (zQ.wi hσ11 rfl) (fun σ12 hσ12 => zpc_some hσ12))))))) (fun _ => zpc_if (fun _ => zpc_bi (fk_fX12_turns h) (fun σ13 v14 hσ13 => zpc_some hσ13)) (fun _ => zpc_if (fun _ => zpc_bi (fk_fX12_next h) (fun σ15 v16 hσ15 => zpc_ck (zpc_bu (fk_fX12_portTo hσ15) (fun σ17 hσ17 => zpc_ck (zpc_ck (zpc_bs (zQ.wi hσ17 rfl) (fun σ18 hσ18 => zpc_some hσ18))))))) (fun _ => zpc_if (fun _ => zpc_bi (fk_fX12_next h) (fun σ19 v20 hσ19 => zpc_ck (zpc_ck (zpc_bs (zQ.wi hσ19 rfl) (fun σ21 hσ21 => zpc_bi (fk_fX12_port hσ21) (fun σ22 v23 hσ22 => zpc_ck (zpc_bs (zQ.wi hσ22 rfl) (fun σ24 hσ24 => zpc_some hσ24)))))))) (fun _ => zpc_if (fun _ => zpc_ck (zpc_bi (fk_fX12_word h) (fun σ25 v26 hσ25 => zpc_ck (zpc_bi (fk_fX12_hl hσ25) (fun σ27 v28 hσ27 => zpc_bu (fk_fX12_wordTo hσ27) (fun σ29 hσ29 => zpc_bu (fk_fX12_hlTo hσ29) (fun σ30 hσ30 => zpc_ck (zpc_bs (zQ.wi hσ30 rfl) (fun σ31 hσ31 => zpc_some hσ31))))))))) (fun _ => zpc_if (fun _ => zpc_bu (fk_fX12_change h) (fun σ32 hσ32 => zpc_bu (fk_fX12_change hσ32) (fun σ33 hσ33 => zpc_some hσ33))) (fun _ => zpc_ck (zpc_bs (zQ.wi h rfl) (fun σ34 hσ34 => zpc_ck (zpc_bs (zQ.wi hσ34 rfl) (fun σ35 hσ35 => zpc_if (fun _ => zpc_ck (zpc_bs (zQ.wi hσ35 rfl) (fun σ36 hσ36 => fk_fX12_three_502 hσ36))) (fun _ => fk_fX12_three_502 hσ35)))))))))))))
theorem fk_fX12_three_85 {σ0 : zSt} {σ : zSt} (h : (zQ [3, 5, 6, 7, 8, 9, 21, 22, 23, 24, 25] [(0, 31, 33)] [4, 10, 11] [(0, 30, 30)]) σ0 σ) : zpc (fX12_three_85 σ) (fun r => (zQ [3, 5, 6, 7, 8, 9, 21, 22, 23, 24, 25] [(0, 31, 33)] [4, 10, 11] [(0, 30, 30)]) σ0 (r.1)) := by
  unfold fX12_three_85
  exact zpc_some h
theorem fk_fX12_three {σ0 : zSt} {σ : zSt} {x1 : Int32} {x2 : Int32} (h : (zQ [3, 5, 6, 7, 8, 9, 21, 22, 23, 24, 25] [(0, 31, 33)] [4, 10, 11] [(0, 30, 30)]) σ0 σ) : zpc (fX12_three σ x1 x2) (fun r => (zQ [3, 5, 6, 7, 8, 9, 21, 22, 23, 24, 25] [(0, 31, 33)] [4, 10, 11] [(0, 30, 30)]) σ0 (r.1)) := by
  unfold fX12_three
  exact zpc_bv (fun v47 _ => zpc_if (fun _ => zpc_bi (fk_fX12_cc h) (fun σ52 v53 hσ52 => zpc_if (fun _ => zpc_some hσ52) (fun _ => zpc_bi (fk_fX12_pop hσ52) (fun σ54 v55 hσ54 => zpc_ck (zpc_bs (zQ.wi hσ54 rfl) (fun σ56 hσ56 => zpc_ck (zpc_ck (zpc_bs (zQ.wi hσ56 rfl) (fun σ57 hσ57 => zpc_some hσ57))))))))) (fun _ => zpc_if (fun _ => zpc_ck (zpc_if (fun _ => zpc_bi (fk_fX12_pop h) (fun σ48 v49 hσ48 => zpc_if (fun _ => zpc_bu (fk_fX12_pairTo hσ48) (fun σ51 hσ51 => fk_fX12_three_85 hσ51)) (fun _ => zpc_bu (fk_fX12_rpTo hσ48) (fun σ50 hσ50 => fk_fX12_three_85 hσ50)))) (fun _ => fk_fX12_three_88 h))) (fun _ => fk_fX12_three_88 h)))
theorem fk_fX12_does_343 {σ0 : zSt} {σ : zSt} (h : (zQ [3, 5, 6, 7, 8, 9, 21, 22, 23, 24, 25] [(0, 31, 33)] [4, 10, 11] [(0, 30, 30)]) σ0 σ) : zpc (fX12_does_343 σ) (fun r => (zQ [3, 5, 6, 7, 8, 9, 21, 22, 23, 24, 25] [(0, 31, 33)] [4, 10, 11] [(0, 30, 30)]) σ0 (r)) := by
  unfold fX12_does_343
  exact zpc_some h
theorem fk_fX12_does_314 {σ0 : zSt} {σ : zSt} {x1 : Int32} {x2 : Int32} {x6 : Int32} {s0 : Int32} {s1 : Int32} (h : (zQ [3, 5, 6, 7, 8, 9, 21, 22, 23, 24, 25] [(0, 31, 33)] [4, 10, 11] [(0, 30, 30)]) σ0 σ) : zpc (fX12_does_314 σ x1 x2 x6 s0 s1) (fun r => (zQ [3, 5, 6, 7, 8, 9, 21, 22, 23, 24, 25] [(0, 31, 33)] [4, 10, 11] [(0, 30, 30)]) σ0 (r)) := by
  unfold fX12_does_314
  exact zpc_bu (fk_fX12_put h) (fun σ1 hσ1 => zpc_if (fun _ => zpc_bu (fk_fX12_xy hσ1) (fun σ3 hσ3 => fk_fX12_does_343 hσ3)) (fun _ => zpc_ck (zpc_bs (zQ.wi hσ1 rfl) (fun σ2 hσ2 => fk_fX12_does_343 hσ2))))
theorem fk_fX12_does_299 {σ0 : zSt} {σ : zSt} {x1 : Int32} {x2 : Int32} {x5 : Int32} {x6 : Int32} {s0 : Int32} {s1 : Int32} (h : (zQ [3, 5, 6, 7, 8, 9, 21, 22, 23, 24, 25] [(0, 31, 33)] [4, 10, 11] [(0, 30, 30)]) σ0 σ) : zpc (fX12_does_299 σ x1 x2 x5 x6 s0 s1) (fun r => (zQ [3, 5, 6, 7, 8, 9, 21, 22, 23, 24, 25] [(0, 31, 33)] [4, 10, 11] [(0, 30, 30)]) σ0 (r)) := by
  unfold fX12_does_299
  exact zpc_bu (fk_fX12_put h) (fun σ4 hσ4 => zpc_if (fun _ => fk_fX12_does_314 hσ4) (fun _ => fk_fX12_does_314 hσ4))
theorem fk_fX12_does_294 {σ0 : zSt} {σ : zSt} {x1 : Int32} {x2 : Int32} {x5 : Int32} {x6 : Int32} {s0 : Int32} (h : (zQ [3, 5, 6, 7, 8, 9, 21, 22, 23, 24, 25] [(0, 31, 33)] [4, 10, 11] [(0, 30, 30)]) σ0 σ) : zpc (fX12_does_294 σ x1 x2 x5 x6 s0) (fun r => (zQ [3, 5, 6, 7, 8, 9, 21, 22, 23, 24, 25] [(0, 31, 33)] [4, 10, 11] [(0, 30, 30)]) σ0 (r)) := by
  unfold fX12_does_294
  exact fk_fX12_does_299 h
theorem fk_fX12_does_266 {σ0 : zSt} {σ : zSt} {x1 : Int32} {x2 : Int32} {x5 : Int32} {x6 : Int32} {s0 : Int32} (h : (zQ [3, 5, 6, 7, 8, 9, 21, 22, 23, 24, 25] [(0, 31, 33)] [4, 10, 11] [(0, 30, 30)]) σ0 σ) : zpc (fX12_does_266 σ x1 x2 x5 x6 s0) (fun r => (zQ [3, 5, 6, 7, 8, 9, 21, 22, 23, 24, 25] [(0, 31, 33)] [4, 10, 11] [(0, 30, 30)]) σ0 (r)) := by
  unfold fX12_does_266
  exact zpc_bu (fk_fX12_by h) (fun σ5 hσ5 => zpc_if (fun _ => fk_fX12_does_294 hσ5) (fun _ => zpc_if (fun _ => fk_fX12_does_299 hσ5) (fun _ => fk_fX12_does_294 hσ5)))
theorem fk_fX12_does_231 {σ0 : zSt} {σ : zSt} {x1 : Int32} {x2 : Int32} {x3 : Int32} {x4 : Int32} {x5 : Int32} {x6 : Int32} {s0 : Int32} {s1 : Int32} (h : (zQ [3, 5, 6, 7, 8, 9, 21, 22, 23, 24, 25] [(0, 31, 33)] [4, 10, 11] [(0, 30, 30)]) σ0 σ) : zpc (fX12_does_231 σ x1 x2 x3 x4 x5 x6 s0 s1) (fun r => (zQ [3, 5, 6, 7, 8, 9, 21, 22, 23, 24, 25] [(0, 31, 33)] [4, 10, 11] [(0, 30, 30)]) σ0 (r)) := by
  unfold fX12_does_231
  exact zpc_bu (fk_fX12_put h) (fun σ6 hσ6 => zpc_if (fun _ => zpc_bi (fk_fX12_signed hσ6) (fun σ7 v8 hσ7 => zpc_bi (fk_fX12_signed hσ7) (fun σ9 v10 hσ9 => fk_fX12_does_266 hσ9))) (fun _ => zpc_bi (fk_fX12_signed hσ6) (fun σ11 v12 hσ11 => zpc_bi (fk_fX12_signed hσ11) (fun σ13 v14 hσ13 => fk_fX12_does_266 hσ13))))
theorem fk_fX12_does_226 {σ0 : zSt} {σ : zSt} {x1 : Int32} {x2 : Int32} {x3 : Int32} {x4 : Int32} {x5 : Int32} {x6 : Int32} {s0 : Int32} (h : (zQ [3, 5, 6, 7, 8, 9, 21, 22, 23, 24, 25] [(0, 31, 33)] [4, 10, 11] [(0, 30, 30)]) σ0 σ) : zpc (fX12_does_226 σ x1 x2 x3 x4 x5 x6 s0) (fun r => (zQ [3, 5, 6, 7, 8, 9, 21, 22, 23, 24, 25] [(0, 31, 33)] [4, 10, 11] [(0, 30, 30)]) σ0 (r)) := by
  unfold fX12_does_226
  exact fk_fX12_does_231 h
theorem fk_fX12_does_208 {σ0 : zSt} {σ : zSt} {x1 : Int32} {x2 : Int32} {x3 : Int32} {x4 : Int32} {x5 : Int32} {x6 : Int32} {s0 : Int32} {s1 : Int32} (h : (zQ [3, 5, 6, 7, 8, 9, 21, 22, 23, 24, 25] [(0, 31, 33)] [4, 10, 11] [(0, 30, 30)]) σ0 σ) : zpc (fX12_does_208 σ x1 x2 x3 x4 x5 x6 s0 s1) (fun r => (zQ [3, 5, 6, 7, 8, 9, 21, 22, 23, 24, 25] [(0, 31, 33)] [4, 10, 11] [(0, 30, 30)]) σ0 (r)) := by
  unfold fX12_does_208
  exact zpc_bu (fk_fX12_put h) (fun σ15 hσ15 => zpc_if (fun _ => fk_fX12_does_226 hσ15) (fun _ => zpc_if (fun _ => fk_fX12_does_231 hσ15) (fun _ => fk_fX12_does_226 hσ15)))
theorem fk_fX12_does_154 {σ0 : zSt} {σ : zSt} {x1 : Int32} {x2 : Int32} {x3 : Int32} {x4 : Int32} {x5 : Int32} {s0 : Int32} (h : (zQ [3, 5, 6, 7, 8, 9, 21, 22, 23, 24, 25] [(0, 31, 33)] [4, 10, 11] [(0, 30, 30)]) σ0 σ) : zpc (fX12_does_154 σ x1 x2 x3 x4 x5 s0) (fun r => (zQ [3, 5, 6, 7, 8, 9, 21, 22, 23, 24, 25] [(0, 31, 33)] [4, 10, 11] [(0, 30, 30)]) σ0 (r)) := by
  unfold fX12_does_154
  exact zpc_if (fun _ => zpc_if (fun _ => fk_fX12_does_208 h) (fun _ => fk_fX12_does_208 h)) (fun _ => zpc_if (fun _ => fk_fX12_does_208 h) (fun _ => fk_fX12_does_208 h))
theorem fk_fX12_does_132 {σ0 : zSt} {σ : zSt} {x1 : Int32} {x2 : Int32} {x3 : Int32} {x4 : Int32} {s0 : Int32} (h : (zQ [3, 5, 6, 7, 8, 9, 21, 22, 23, 24, 25] [(0, 31, 33)] [4, 10, 11] [(0, 30, 30)]) σ0 σ) : zpc (fX12_does_132 σ x1 x2 x3 x4 s0) (fun r => (zQ [3, 5, 6, 7, 8, 9, 21, 22, 23, 24, 25] [(0, 31, 33)] [4, 10, 11] [(0, 30, 30)]) σ0 (r)) := by
  unfold fX12_does_132
  exact zpc_if (fun _ => fk_fX12_does_154 h) (fun _ => fk_fX12_does_154 h)
theorem fk_fX12_does_120 {σ0 : zSt} {σ : zSt} {x1 : Int32} {x2 : Int32} {x3 : Int32} {s0 : Int32} (h : (zQ [3, 5, 6, 7, 8, 9, 21, 22, 23, 24, 25] [(0, 31, 33)] [4, 10, 11] [(0, 30, 30)]) σ0 σ) : zpc (fX12_does_120 σ x1 x2 x3 s0) (fun r => (zQ [3, 5, 6, 7, 8, 9, 21, 22, 23, 24, 25] [(0, 31, 33)] [4, 10, 11] [(0, 30, 30)]) σ0 (r)) := by
  unfold fX12_does_120
  exact zpc_if (fun _ => fk_fX12_does_132 h) (fun _ => fk_fX12_does_132 h)
theorem fk_fX12_does_111 {σ0 : zSt} {σ : zSt} {x1 : Int32} {x2 : Int32} {x3 : Int32} (h : (zQ [3, 5, 6, 7, 8, 9, 21, 22, 23, 24, 25] [(0, 31, 33)] [4, 10, 11] [(0, 30, 30)]) σ0 σ) : zpc (fX12_does_111 σ x1 x2 x3) (fun r => (zQ [3, 5, 6, 7, 8, 9, 21, 22, 23, 24, 25] [(0, 31, 33)] [4, 10, 11] [(0, 30, 30)]) σ0 (r)) := by
  unfold fX12_does_111
  exact zpc_bi (fk_fX12_flag h) (fun σ16 v17 hσ16 => fk_fX12_does_120 hσ16)
theorem fk_fX12_does_101 {σ0 : zSt} {σ : zSt} {x1 : Int32} {x2 : Int32} {x3 : Int32} (h : (zQ [3, 5, 6, 7, 8, 9, 21, 22, 23, 24, 25] [(0, 31, 33)] [4, 10, 11] [(0, 30, 30)]) σ0 σ) : zpc (fX12_does_101 σ x1 x2 x3) (fun r => (zQ [3, 5, 6, 7, 8, 9, 21, 22, 23, 24, 25] [(0, 31, 33)] [4, 10, 11] [(0, 30, 30)]) σ0 (r)) := by
  unfold fX12_does_101
  exact zpc_if (fun _ => fk_fX12_does_111 h) (fun _ => zpc_if (fun _ => fk_fX12_does_111 h) (fun _ => fk_fX12_does_120 h))
theorem fk_fX12_does_71 {σ0 : zSt} {σ : zSt} {s0 : Int32} {s1 : Int32} (h : (zQ [3, 5, 6, 7, 8, 9, 21, 22, 23, 24, 25] [(0, 31, 33)] [4, 10, 11] [(0, 30, 30)]) σ0 σ) : zpc (fX12_does_71 σ s0 s1) (fun r => (zQ [3, 5, 6, 7, 8, 9, 21, 22, 23, 24, 25] [(0, 31, 33)] [4, 10, 11] [(0, 30, 30)]) σ0 (r)) := by
  unfold fX12_does_71
  exact zpc_bu (fk_fX12_put h) (fun σ18 hσ18 => zpc_ck (zpc_bi (fk_fX12_isEven hσ18) (fun σ19 v20 hσ19 => zpc_bu (fk_fX12_put hσ19) (fun σ21 hσ21 => zpc_bu (fk_fX12_put hσ21) (fun σ22 hσ22 => zpc_bu (fk_fX12_put hσ22) (fun σ23 hσ23 => zpc_some hσ23))))))
theorem fk_fX12_does_48 {σ0 : zSt} {σ : zSt} {x1 : Int32} {s0 : Int32} {s1 : Int32} (h : (zQ [3, 5, 6, 7, 8, 9, 21, 22, 23, 24, 25] [(0, 31, 33)] [4, 10, 11] [(0, 30, 30)]) σ0 σ) : zpc (fX12_does_48 σ x1 s0 s1) (fun r => (zQ [3, 5, 6, 7, 8, 9, 21, 22, 23, 24, 25] [(0, 31, 33)] [4, 10, 11] [(0, 30, 30)]) σ0 (r)) := by
  unfold fX12_does_48
  exact zpc_ck (zpc_bs (zQ.wi h rfl) (fun σ24 hσ24 => zpc_ck (zpc_bu (fk_fX12_by hσ24) (fun σ25 hσ25 => zpc_if (fun _ => fk_fX12_does_71 hσ25) (fun _ => fk_fX12_does_71 hσ25)))))
theorem fk_fX12_does {σ0 : zSt} {σ : zSt} {x1 : Int32} {x2 : Int32} (h : (zQ [3, 5, 6, 7, 8, 9, 21, 22, 23, 24, 25] [(0, 31, 33)] [4, 10, 11] [(0, 30, 30)]) σ0 σ) : zpc (fX12_does σ x1 x2) (fun r => (zQ [3, 5, 6, 7, 8, 9, 21, 22, 23, 24, 25] [(0, 31, 33)] [4, 10, 11] [(0, 30, 30)]) σ0 (r)) := by
  unfold fX12_does
  exact zpc_ck (zpc_bv (fun v26 _ => zpc_if (fun _ => fk_fX12_does_101 h) (fun _ => zpc_if (fun _ => fk_fX12_does_101 h) (fun _ => zpc_if (fun _ => fk_fX12_does_48 h) (fun _ => zpc_if (fun _ => fk_fX12_does_48 h) (fun _ => fk_fX12_does_48 h))))))
theorem fk_fX12_blocks_595 {σ0 : zSt} {σ : zSt} (h : (zQ [3, 5, 6, 7, 8, 9, 21, 22, 23, 24, 25] [(0, 31, 33)] [4, 10, 11] [(0, 30, 30)]) σ0 σ) : zpc (fX12_blocks_595 σ) (fun r => (zQ [3, 5, 6, 7, 8, 9, 21, 22, 23, 24, 25] [(0, 31, 33)] [4, 10, 11] [(0, 30, 30)]) σ0 (r.1)) := by
  unfold fX12_blocks_595
  exact zpc_some h
theorem fk_fX12_blocks_641 {σ0 : zSt} {σ : zSt} (h : (zQ [3, 5, 6, 7, 8, 9, 21, 22, 23, 24, 25] [(0, 31, 33)] [4, 10, 11] [(0, 30, 30)]) σ0 σ) : zpc (fX12_blocks_641 σ) (fun r => (zQ [3, 5, 6, 7, 8, 9, 21, 22, 23, 24, 25] [(0, 31, 33)] [4, 10, 11] [(0, 30, 30)]) σ0 (r.1)) := by
  unfold fX12_blocks_641
  exact zpc_some h
theorem fk_fX12_blocks_584 {σ0 : zSt} {σ : zSt} {x1 : Int32} {x2 : Int32} {x5 : Int32} (h : (zQ [3, 5, 6, 7, 8, 9, 21, 22, 23, 24, 25] [(0, 31, 33)] [4, 10, 11] [(0, 30, 30)]) σ0 σ) : zpc (fX12_blocks_584 σ x1 x2 x5) (fun r => (zQ [3, 5, 6, 7, 8, 9, 21, 22, 23, 24, 25] [(0, 31, 33)] [4, 10, 11] [(0, 30, 30)]) σ0 (r.1)) := by
  unfold fX12_blocks_584
  exact zpc_if (fun _ => fk_fX12_blocks_595 h) (fun _ => zpc_if (fun _ => fk_fX12_blocks_595 h) (fun _ => zpc_ck (zpc_ck (zpc_bs (zQ.wi h rfl) (fun σ1 hσ1 => zpc_if (fun _ => fk_fX12_blocks_641 hσ1) (fun _ => zpc_ck (zpc_ck (zpc_bs (zQ.wi hσ1 rfl) (fun σ2 hσ2 => fk_fX12_blocks_641 hσ2)))))))))
theorem fk_fX12_blocks_297 {σ0 : zSt} {σ : zSt} {x1 : Int32} {x2 : Int32} {s0 : Int32} (h : (zQ [3, 5, 6, 7, 8, 9, 21, 22, 23, 24, 25] [(0, 31, 33)] [4, 10, 11] [(0, 30, 30)]) σ0 σ) : zpc (fX12_blocks_297 σ x1 x2 s0) (fun r => (zQ [3, 5, 6, 7, 8, 9, 21, 22, 23, 24, 25] [(0, 31, 33)] [4, 10, 11] [(0, 30, 30)]) σ0 (r.1)) := by
  unfold fX12_blocks_297
  exact fk_fX12_blocks_584 h
theorem fk_fX12_blocks_296 {σ0 : zSt} {σ : zSt} {x1 : Int32} {x2 : Int32} (h : (zQ [3, 5, 6, 7, 8, 9, 21, 22, 23, 24, 25] [(0, 31, 33)] [4, 10, 11] [(0, 30, 30)]) σ0 σ) : zpc (fX12_blocks_296 σ x1 x2) (fun r => (zQ [3, 5, 6, 7, 8, 9, 21, 22, 23, 24, 25] [(0, 31, 33)] [4, 10, 11] [(0, 30, 30)]) σ0 (r.1)) := by
  unfold fX12_blocks_296
  exact fk_fX12_blocks_297 h
theorem fk_fX12_blocks_292 {σ0 : zSt} {σ : zSt} {x1 : Int32} {x2 : Int32} (h : (zQ [3, 5, 6, 7, 8, 9, 21, 22, 23, 24, 25] [(0, 31, 33)] [4, 10, 11] [(0, 30, 30)]) σ0 σ) : zpc (fX12_blocks_292 σ x1 x2) (fun r => (zQ [3, 5, 6, 7, 8, 9, 21, 22, 23, 24, 25] [(0, 31, 33)] [4, 10, 11] [(0, 30, 30)]) σ0 (r.1)) := by
  unfold fX12_blocks_292
  exact fk_fX12_blocks_297 h
theorem fk_fX12_blocks_267 {σ0 : zSt} {σ : zSt} {x1 : Int32} {x2 : Int32} {s0 : Int32} {s1 : Int32} (h : (zQ [3, 5, 6, 7, 8, 9, 21, 22, 23, 24, 25] [(0, 31, 33)] [4, 10, 11] [(0, 30, 30)]) σ0 σ) : zpc (fX12_blocks_267 σ x1 x2 s0 s1) (fun r => (zQ [3, 5, 6, 7, 8, 9, 21, 22, 23, 24, 25] [(0, 31, 33)] [4, 10, 11] [(0, 30, 30)]) σ0 (r.1)) := by
  unfold fX12_blocks_267
  exact zpc_bu (fk_fX12_put h) (fun σ3 hσ3 => zpc_bi (fk_fX12_flag hσ3) (fun σ4 v5 hσ4 => zpc_if (fun _ => zpc_if (fun _ => fk_fX12_blocks_292 hσ4) (fun _ => zpc_bi (fk_fX12_flag hσ4) (fun σ6 v7 hσ6 => zpc_if (fun _ => fk_fX12_blocks_292 hσ6) (fun _ => fk_fX12_blocks_296 hσ6)))) (fun _ => fk_fX12_blocks_296 hσ4)))
theorem fk_fX12_blocks_249 {σ0 : zSt} {σ : zSt} {x1 : Int32} {x2 : Int32} {s0 : Int32} {s1 : Int32} (h : (zQ [3, 5, 6, 7, 8, 9, 21, 22, 23, 24, 25] [(0, 31, 33)] [4, 10, 11] [(0, 30, 30)]) σ0 σ) : zpc (fX12_blocks_249 σ x1 x2 s0 s1) (fun r => (zQ [3, 5, 6, 7, 8, 9, 21, 22, 23, 24, 25] [(0, 31, 33)] [4, 10, 11] [(0, 30, 30)]) σ0 (r.1)) := by
  unfold fX12_blocks_249
  exact zpc_bu (fk_fX12_put h) (fun σ8 hσ8 => zpc_bi (fk_fX12_pair hσ8) (fun σ9 v10 hσ9 => zpc_if (fun _ => fk_fX12_blocks_267 hσ9) (fun _ => fk_fX12_blocks_267 hσ9)))
theorem fk_fX12_blocks_234 {σ0 : zSt} {σ : zSt} {x1 : Int32} {x2 : Int32} {s0 : Int32} {s1 : Int32} (h : (zQ [3, 5, 6, 7, 8, 9, 21, 22, 23, 24, 25] [(0, 31, 33)] [4, 10, 11] [(0, 30, 30)]) σ0 σ) : zpc (fX12_blocks_234 σ x1 x2 s0 s1) (fun r => (zQ [3, 5, 6, 7, 8, 9, 21, 22, 23, 24, 25] [(0, 31, 33)] [4, 10, 11] [(0, 30, 30)]) σ0 (r.1)) := by
  unfold fX12_blocks_234
  exact zpc_bu (fk_fX12_put h) (fun σ11 hσ11 => zpc_if (fun _ => fk_fX12_blocks_249 hσ11) (fun _ => fk_fX12_blocks_249 hσ11))
theorem fk_fX12_blocks_216 {σ0 : zSt} {σ : zSt} {x1 : Int32} {x2 : Int32} {x6 : Int32} {s0 : Int32} {s1 : Int32} (h : (zQ [3, 5, 6, 7, 8, 9, 21, 22, 23, 24, 25] [(0, 31, 33)] [4, 10, 11] [(0, 30, 30)]) σ0 σ) : zpc (fX12_blocks_216 σ x1 x2 x6 s0 s1) (fun r => (zQ [3, 5, 6, 7, 8, 9, 21, 22, 23, 24, 25] [(0, 31, 33)] [4, 10, 11] [(0, 30, 30)]) σ0 (r.1)) := by
  unfold fX12_blocks_216
  exact zpc_bu (fk_fX12_put h) (fun σ12 hσ12 => zpc_if (fun _ => fk_fX12_blocks_234 hσ12) (fun _ => fk_fX12_blocks_234 hσ12))
theorem fk_fX12_blocks_202 {σ0 : zSt} {σ : zSt} {x1 : Int32} {x2 : Int32} {x6 : Int32} (h : (zQ [3, 5, 6, 7, 8, 9, 21, 22, 23, 24, 25] [(0, 31, 33)] [4, 10, 11] [(0, 30, 30)]) σ0 σ) : zpc (fX12_blocks_202 σ x1 x2 x6) (fun r => (zQ [3, 5, 6, 7, 8, 9, 21, 22, 23, 24, 25] [(0, 31, 33)] [4, 10, 11] [(0, 30, 30)]) σ0 (r.1)) := by
  unfold fX12_blocks_202
  exact zpc_if (fun _ => fk_fX12_blocks_216 h) (fun _ => fk_fX12_blocks_216 h)
theorem fk_fX12_blocks_190 {σ0 : zSt} {σ : zSt} {x1 : Int32} {x2 : Int32} {s0 : Int32} {s1 : Int32} (h : (zQ [3, 5, 6, 7, 8, 9, 21, 22, 23, 24, 25] [(0, 31, 33)] [4, 10, 11] [(0, 30, 30)]) σ0 σ) : zpc (fX12_blocks_190 σ x1 x2 s0 s1) (fun r => (zQ [3, 5, 6, 7, 8, 9, 21, 22, 23, 24, 25] [(0, 31, 33)] [4, 10, 11] [(0, 30, 30)]) σ0 (r.1)) := by
  unfold fX12_blocks_190
  exact zpc_bv (fun v13 _ => fk_fX12_blocks_202 h)
theorem fk_fX12_blocks_159 {σ0 : zSt} {σ : zSt} {x1 : Int32} {x2 : Int32} {x6 : Int32} {s0 : Int32} (h : (zQ [3, 5, 6, 7, 8, 9, 21, 22, 23, 24, 25] [(0, 31, 33)] [4, 10, 11] [(0, 30, 30)]) σ0 σ) : zpc (fX12_blocks_159 σ x1 x2 x6 s0) (fun r => (zQ [3, 5, 6, 7, 8, 9, 21, 22, 23, 24, 25] [(0, 31, 33)] [4, 10, 11] [(0, 30, 30)]) σ0 (r.1)) := by
  unfold fX12_blocks_159
  exact zpc_bu (fk_fX12_by h) (fun σ14 hσ14 => zpc_bu (fk_fX12_put hσ14) (fun σ15 hσ15 => zpc_if (fun _ => fk_fX12_blocks_190 hσ15) (fun _ => fk_fX12_blocks_190 hσ15)))
theorem fk_fX12_blocks_111 {σ0 : zSt} {σ : zSt} {x1 : Int32} {x2 : Int32} {x3 : Int32} {x4 : Int32} {s0 : Int32} (h : (zQ [3, 5, 6, 7, 8, 9, 21, 22, 23, 24, 25] [(0, 31, 33)] [4, 10, 11] [(0, 30, 30)]) σ0 σ) : zpc (fX12_blocks_111 σ x1 x2 x3 x4 s0) (fun r => (zQ [3, 5, 6, 7, 8, 9, 21, 22, 23, 24, 25] [(0, 31, 33)] [4, 10, 11] [(0, 30, 30)]) σ0 (r.1)) := by
  unfold fX12_blocks_111
  exact zpc_if (fun _ => zpc_ck (zpc_ck (zpc_bs (zQ.wi h rfl) (fun σ17 hσ17 => zpc_ck (zpc_if (fun _ => fk_fX12_blocks_159 hσ17) (fun _ => fk_fX12_blocks_159 hσ17)))))) (fun _ => zpc_bu (fk_fX12_put h) (fun σ16 hσ16 => fk_fX12_blocks_202 hσ16))
theorem fk_fX12_blocks_74 {σ0 : zSt} {σ : zSt} {x1 : Int32} {x2 : Int32} {x3 : Int32} {x4 : Int32} (h : (zQ [3, 5, 6, 7, 8, 9, 21, 22, 23, 24, 25] [(0, 31, 33)] [4, 10, 11] [(0, 30, 30)]) σ0 σ) : zpc (fX12_blocks_74 σ x1 x2 x3 x4) (fun r => (zQ [3, 5, 6, 7, 8, 9, 21, 22, 23, 24, 25] [(0, 31, 33)] [4, 10, 11] [(0, 30, 30)]) σ0 (r.1)) := by
  unfold fX12_blocks_74
  exact zpc_bi (fk_fX12_pair h) (fun σ18 v19 hσ18 => zpc_bu (fk_fX12_pairTo hσ18) (fun σ20 hσ20 => zpc_if (fun _ => zpc_ck (fk_fX12_blocks_111 hσ20)) (fun _ => zpc_ck (fk_fX12_blocks_111 hσ20))))
theorem fk_fX12_blocks_44 {σ0 : zSt} {σ : zSt} {x1 : Int32} {x2 : Int32} {x3 : Int32} {x4 : Int32} (h : (zQ [3, 5, 6, 7, 8, 9, 21, 22, 23, 24, 25] [(0, 31, 33)] [4, 10, 11] [(0, 30, 30)]) σ0 σ) : zpc (fX12_blocks_44 σ x1 x2 x3 x4) (fun r => (zQ [3, 5, 6, 7, 8, 9, 21, 22, 23, 24, 25] [(0, 31, 33)] [4, 10, 11] [(0, 30, 30)]) σ0 (r.1)) := by
  unfold fX12_blocks_44
  exact zpc_bi (fk_fX12_pair h) (fun σ21 v22 hσ21 => zpc_bu (fk_fX12_pairTo hσ21) (fun σ23 hσ23 => zpc_if (fun _ => zpc_bi (fk_fX12_pair hσ23) (fun σ24 v25 hσ24 => zpc_bu (fk_fX12_pairTo hσ24) (fun σ26 hσ26 => fk_fX12_blocks_74 hσ26))) (fun _ => fk_fX12_blocks_74 hσ23)))
theorem fk_fX12_blocks_582 {σ0 : zSt} {σ : zSt} {x1 : Int32} {x2 : Int32} {s0 : Int32} (h : (zQ [3, 5, 6, 7, 8, 9, 21, 22, 23, 24, 25] [(0, 31, 33)] [4, 10, 11] [(0, 30, 30)]) σ0 σ) : zpc (fX12_blocks_582 σ x1 x2 s0) (fun r => (zQ [3, 5, 6, 7, 8, 9, 21, 22, 23, 24, 25] [(0, 31, 33)] [4, 10, 11] [(0, 30, 30)]) σ0 (r.1)) := by
  unfold fX12_blocks_582
  exact fk_fX12_blocks_584 h
theorem fk_fX12_blocks_545 {σ0 : zSt} {σ : zSt} {x1 : Int32} {x2 : Int32} {x6 : Int32} {s0 : Int32} {s1 : Int32} (h : (zQ [3, 5, 6, 7, 8, 9, 21, 22, 23, 24, 25] [(0, 31, 33)] [4, 10, 11] [(0, 30, 30)]) σ0 σ) : zpc (fX12_blocks_545 σ x1 x2 x6 s0 s1) (fun r => (zQ [3, 5, 6, 7, 8, 9, 21, 22, 23, 24, 25] [(0, 31, 33)] [4, 10, 11] [(0, 30, 30)]) σ0 (r.1)) := by
  unfold fX12_blocks_545
  exact zpc_bu (fk_fX12_put h) (fun σ27 hσ27 => zpc_ck (zpc_bi (fk_fX12_isEven hσ27) (fun σ28 v29 hσ28 => zpc_bu (fk_fX12_put hσ28) (fun σ30 hσ30 => zpc_ck (zpc_if (fun _ => fk_fX12_blocks_582 hσ30) (fun _ => fk_fX12_blocks_582 hσ30))))))
theorem fk_fX12_blocks_527 {σ0 : zSt} {σ : zSt} {x1 : Int32} {x2 : Int32} {x6 : Int32} {s0 : Int32} {s1 : Int32} (h : (zQ [3, 5, 6, 7, 8, 9, 21, 22, 23, 24, 25] [(0, 31, 33)] [4, 10, 11] [(0, 30, 30)]) σ0 σ) : zpc (fX12_blocks_527 σ x1 x2 x6 s0 s1) (fun r => (zQ [3, 5, 6, 7, 8, 9, 21, 22, 23, 24, 25] [(0, 31, 33)] [4, 10, 11] [(0, 30, 30)]) σ0 (r.1)) := by
  unfold fX12_blocks_527
  exact zpc_bu (fk_fX12_put h) (fun σ31 hσ31 => zpc_if (fun _ => fk_fX12_blocks_545 hσ31) (fun _ => fk_fX12_blocks_545 hσ31))
theorem fk_fX12_blocks_509 {σ0 : zSt} {σ : zSt} {x1 : Int32} {x2 : Int32} {x6 : Int32} {s0 : Int32} {s1 : Int32} (h : (zQ [3, 5, 6, 7, 8, 9, 21, 22, 23, 24, 25] [(0, 31, 33)] [4, 10, 11] [(0, 30, 30)]) σ0 σ) : zpc (fX12_blocks_509 σ x1 x2 x6 s0 s1) (fun r => (zQ [3, 5, 6, 7, 8, 9, 21, 22, 23, 24, 25] [(0, 31, 33)] [4, 10, 11] [(0, 30, 30)]) σ0 (r.1)) := by
  unfold fX12_blocks_509
  exact zpc_bu (fk_fX12_put h) (fun σ32 hσ32 => zpc_if (fun _ => fk_fX12_blocks_527 hσ32) (fun _ => fk_fX12_blocks_527 hσ32))
theorem fk_fX12_blocks_485 {σ0 : zSt} {σ : zSt} {x1 : Int32} {x2 : Int32} {x4 : Int32} {x6 : Int32} (h : (zQ [3, 5, 6, 7, 8, 9, 21, 22, 23, 24, 25] [(0, 31, 33)] [4, 10, 11] [(0, 30, 30)]) σ0 σ) : zpc (fX12_blocks_485 σ x1 x2 x4 x6) (fun r => (zQ [3, 5, 6, 7, 8, 9, 21, 22, 23, 24, 25] [(0, 31, 33)] [4, 10, 11] [(0, 30, 30)]) σ0 (r.1)) := by
  unfold fX12_blocks_485
  exact zpc_ck (zpc_bu (fk_fX12_by h) (fun σ33 hσ33 => zpc_if (fun _ => fk_fX12_blocks_509 hσ33) (fun _ => fk_fX12_blocks_509 hσ33)))
theorem fk_fX12_blocks_11 {σ0 : zSt} {σ : zSt} {x1 : Int32} {x2 : Int32} {s0 : Int32} (h : (zQ [3, 5, 6, 7, 8, 9, 21, 22, 23, 24, 25] [(0, 31, 33)] [4, 10, 11] [(0, 30, 30)]) σ0 σ) : zpc (fX12_blocks_11 σ x1 x2 s0) (fun r => (zQ [3, 5, 6, 7, 8, 9, 21, 22, 23, 24, 25] [(0, 31, 33)] [4, 10, 11] [(0, 30, 30)]) σ0 (r.1)) := by
  unfold fX12_blocks_11
  exact zpc_if (fun _ => zpc_if (fun _ => zpc_bi (fk_fX12_pair h) (fun σ47 v48 hσ47 => zpc_ck (zpc_bs (zQ.wi hσ47 rfl) (fun σ49 hσ49 => zpc_ck (zpc_bi (fk_fX12_port hσ49) (fun σ50 v51 hσ50 => zpc_ck (zpc_ck (zpc_bs (zQ.wi hσ50 rfl) (fun σ52 hσ52 => zpc_bi (fk_fX12_pair hσ52) (fun σ53 v54 hσ53 => zpc_bu (fk_fX12_write hσ53) (fun σ55 hσ55 => zpc_bi (fk_fX12_pair hσ55) (fun σ56 v57 hσ56 => zpc_bu (fk_fX12_pairTo hσ56) (fun σ58 hσ58 => zpc_ck (zpc_bv (fun v59 _ => fk_fX12_blocks_485 hσ58))))))))))))))) (fun _ => zpc_bi (fk_fX12_pair h) (fun σ34 v35 hσ34 => zpc_bi (fk_fX12_read hσ34) (fun σ36 v37 hσ36 => zpc_ck (zpc_ck (zpc_bs (zQ.wi hσ36 rfl) (fun σ38 hσ38 => zpc_ck (zpc_bu (fk_fX12_portTo hσ38) (fun σ39 hσ39 => zpc_bi (fk_fX12_pair hσ39) (fun σ40 v41 hσ40 => zpc_bu (fk_fX12_pairTo hσ40) (fun σ42 hσ42 => zpc_bi (fk_fX12_pair hσ42) (fun σ43 v44 hσ43 => zpc_ck (zpc_bs (zQ.wi hσ43 rfl) (fun σ45 hσ45 => zpc_ck (zpc_bv (fun v46 _ => fk_fX12_blocks_485 hσ45)))))))))))))))) (fun _ => zpc_bi (fk_fX12_pair h) (fun σ60 v61 hσ60 => zpc_bi (fk_fX12_read hσ60) (fun σ62 v63 hσ62 => zpc_if (fun _ => zpc_bi (fk_fX12_pair hσ62) (fun σ64 v65 hσ64 => zpc_bu (fk_fX12_write hσ64) (fun σ66 hσ66 => fk_fX12_blocks_44 hσ66))) (fun _ => fk_fX12_blocks_44 hσ62))))
theorem fk_fX12_blocks {σ0 : zSt} {σ : zSt} {x1 : Int32} {x2 : Int32} (h : (zQ [3, 5, 6, 7, 8, 9, 21, 22, 23, 24, 25] [(0, 31, 33)] [4, 10, 11] [(0, 30, 30)]) σ0 σ) : zpc (fX12_blocks σ x1 x2) (fun r => (zQ [3, 5, 6, 7, 8, 9, 21, 22, 23, 24, 25] [(0, 31, 33)] [4, 10, 11] [(0, 30, 30)]) σ0 (r.1)) := by
  unfold fX12_blocks
  exact zpc_ck (zpc_if (fun _ => fk_fX12_blocks_11 h) (fun _ => fk_fX12_blocks_11 h))
theorem fk_fX12_specials_28 {σ0 : zSt} {σ : zSt} {s0 : Int32} (h : (zQ [3, 5, 6, 7, 8, 9, 21, 22, 23, 24, 25] [(0, 31, 33)] [4, 10, 11] [(0, 30, 30)]) σ0 σ) : zpc (fX12_specials_28 σ s0) (fun r => (zQ [3, 5, 6, 7, 8, 9, 21, 22, 23, 24, 25] [(0, 31, 33)] [4, 10, 11] [(0, 30, 30)]) σ0 (r.1)) := by
  unfold fX12_specials_28
  exact zpc_ck (zpc_ck (zpc_bs (zQ.wi h rfl) (fun σ1 hσ1 => zpc_some hσ1)))
theorem fk_fX12_specials_244 {σ0 : zSt} {σ : zSt} {s0 : Int32} (h : (zQ [3, 5, 6, 7, 8, 9, 21, 22, 23, 24, 25] [(0, 31, 33)] [4, 10, 11] [(0, 30, 30)]) σ0 σ) : zpc (fX12_specials_244 σ s0) (fun r => (zQ [3, 5, 6, 7, 8, 9, 21, 22, 23, 24, 25] [(0, 31, 33)] [4, 10, 11] [(0, 30, 30)]) σ0 (r.1)) := by
  unfold fX12_specials_244
  exact zpc_some h
theorem fk_fX12_specials_220 {σ0 : zSt} {σ : zSt} {x1 : Int32} (h : (zQ [3, 5, 6, 7, 8, 9, 21, 22, 23, 24, 25] [(0, 31, 33)] [4, 10, 11] [(0, 30, 30)]) σ0 σ) : zpc (fX12_specials_220 σ x1) (fun r => (zQ [3, 5, 6, 7, 8, 9, 21, 22, 23, 24, 25] [(0, 31, 33)] [4, 10, 11] [(0, 30, 30)]) σ0 (r.1)) := by
  unfold fX12_specials_220
  exact zpc_bu (fk_fX12_put h) (fun σ2 hσ2 => zpc_bu (fk_fX12_put hσ2) (fun σ3 hσ3 => zpc_if (fun _ => fk_fX12_specials_244 hσ3) (fun _ => fk_fX12_specials_244 hσ3)))
theorem fk_fX12_specials_94 {σ0 : zSt} {σ : zSt} {x1 : Int32} {s0 : Int32} {s1 : Int32} (h : (zQ [3, 5, 6, 7, 8, 9, 21, 22, 23, 24, 25] [(0, 31, 33)] [4, 10, 11] [(0, 30, 30)]) σ0 σ) : zpc (fX12_specials_94 σ x1 s0 s1) (fun r => (zQ [3, 5, 6, 7, 8, 9, 21, 22, 23, 24, 25] [(0, 31, 33)] [4, 10, 11] [(0, 30, 30)]) σ0 (r.1)) := by
  unfold fX12_specials_94
  exact zpc_bu (fk_fX12_put h) (fun σ4 hσ4 => fk_fX12_specials_220 hσ4)
theorem fk_fX12_specials_64 {σ0 : zSt} {σ : zSt} {x1 : Int32} {s0 : Int32} {s2 : Int32} (h : (zQ [3, 5, 6, 7, 8, 9, 21, 22, 23, 24, 25] [(0, 31, 33)] [4, 10, 11] [(0, 30, 30)]) σ0 σ) : zpc (fX12_specials_64 σ x1 s0 s2) (fun r => (zQ [3, 5, 6, 7, 8, 9, 21, 22, 23, 24, 25] [(0, 31, 33)] [4, 10, 11] [(0, 30, 30)]) σ0 (r.1)) := by
  unfold fX12_specials_64
  exact zpc_ck (zpc_ck (zpc_bs (zQ.wi h rfl) (fun σ5 hσ5 => zpc_ck (zpc_bu (fk_fX12_by hσ5) (fun σ6 hσ6 => zpc_ck (zpc_if (fun _ => fk_fX12_specials_94 hσ6) (fun _ => fk_fX12_specials_94 hσ6)))))))
theorem fk_fX12_specials_194 {σ0 : zSt} {σ : zSt} {x1 : Int32} {s0 : Int32} {s1 : Int32} {s2 : Int32} (h : (zQ [3, 5, 6, 7, 8, 9, 21, 22, 23, 24, 25] [(0, 31, 33)] [4, 10, 11] [(0, 30, 30)]) σ0 σ) : zpc (fX12_specials_194 σ x1 s0 s1 s2) (fun r => (zQ [3, 5, 6, 7, 8, 9, 21, 22, 23, 24, 25] [(0, 31, 33)] [4, 10, 11] [(0, 30, 30)]) σ0 (r.1)) := by
  unfold fX12_specials_194
  exact zpc_ck (zpc_bs (zQ.wi h rfl) (fun σ7 hσ7 => zpc_ck (zpc_bu (fk_fX12_by hσ7) (fun σ8 hσ8 => zpc_ck (zpc_bi (fk_fX12_isEven hσ8) (fun σ9 v10 hσ9 => zpc_bu (fk_fX12_put hσ9) (fun σ11 hσ11 => fk_fX12_specials_220 hσ11)))))))
theorem fk_fX12_specials_161 {σ0 : zSt} {σ : zSt} {x1 : Int32} {x3 : Int32} {s0 : Int32} {s1 : Int32} (h : (zQ [3, 5, 6, 7, 8, 9, 21, 22, 23, 24, 25] [(0, 31, 33)] [4, 10, 11] [(0, 30, 30)]) σ0 σ) : zpc (fX12_specials_161 σ x1 x3 s0 s1) (fun r => (zQ [3, 5, 6, 7, 8, 9, 21, 22, 23, 24, 25] [(0, 31, 33)] [4, 10, 11] [(0, 30, 30)]) σ0 (r.1)) := by
  unfold fX12_specials_161
  exact zpc_bu (fk_fX12_write h) (fun σ12 hσ12 => zpc_ck (zpc_if (fun _ => fk_fX12_specials_194 hσ12) (fun _ => fk_fX12_specials_194 hσ12)))
theorem fk_fX12_specials {σ0 : zSt} {σ : zSt} {x1 : Int32} (h : (zQ [3, 5, 6, 7, 8, 9, 21, 22, 23, 24, 25] [(0, 31, 33)] [4, 10, 11] [(0, 30, 30)]) σ0 σ) : zpc (fX12_specials σ x1) (fun r => (zQ [3, 5, 6, 7, 8, 9, 21, 22, 23, 24, 25] [(0, 31, 33)] [4, 10, 11] [(0, 30, 30)]) σ0 (r.1)) := by
  unfold fX12_specials
  exact zpc_if (fun _ => zpc_if (fun _ => zpc_if (fun _ => zpc_bi (fk_fX12_pair h) (fun σ13 v14 hσ13 => zpc_ck (zpc_bs (zQ.wi hσ13 rfl) (fun σ15 hσ15 => zpc_bi (fk_fX12_read hσ15) (fun σ16 v17 hσ16 => zpc_ck (zpc_bv (fun v18 _ => zpc_if (fun _ => fk_fX12_specials_161 hσ16) (fun _ => fk_fX12_specials_161 hσ16)))))))) (fun _ => zpc_if (fun _ => fk_fX12_specials_64 h) (fun _ => fk_fX12_specials_64 h))) (fun _ => zpc_if (fun _ => fk_fX12_specials_28 h) (fun _ => fk_fX12_specials_28 h))) (fun _ => zpc_some h)
theorem fk_fX12_words_255 {σ0 : zSt} {σ : zSt} {s0 : Int32} {s1 : Int32} (h : (zQ [3, 5, 6, 7, 8, 9, 21, 22, 23, 24, 25] [(0, 31, 33)] [4, 10, 11] [(0, 30, 30)]) σ0 σ) : zpc (fX12_words_255 σ s0 s1) (fun r => (zQ [3, 5, 6, 7, 8, 9, 21, 22, 23, 24, 25] [(0, 31, 33)] [4, 10, 11] [(0, 30, 30)]) σ0 (r)) := by
  unfold fX12_words_255
  exact zpc_bu (fk_fX12_put h) (fun σ1 hσ1 => zpc_some hσ1)
theorem fk_fX12_words_241 {σ0 : zSt} {σ : zSt} {x2 : Int32} {s0 : Int32} {s1 : Int32} (h : (zQ [3, 5, 6, 7, 8, 9, 21, 22, 23, 24, 25] [(0, 31, 33)] [4, 10, 11] [(0, 30, 30)]) σ0 σ) : zpc (fX12_words_241 σ x2 s0 s1) (fun r => (zQ [3, 5, 6, 7, 8, 9, 21, 22, 23, 24, 25] [(0, 31, 33)] [4, 10, 11] [(0, 30, 30)]) σ0 (r)) := by
  unfold fX12_words_241
  exact zpc_bu (fk_fX12_put h) (fun σ2 hσ2 => zpc_if (fun _ => fk_fX12_words_255 hσ2) (fun _ => fk_fX12_words_255 hσ2))
theorem fk_fX12_words_236 {σ0 : zSt} {σ : zSt} {x2 : Int32} {s0 : Int32} (h : (zQ [3, 5, 6, 7, 8, 9, 21, 22, 23, 24, 25] [(0, 31, 33)] [4, 10, 11] [(0, 30, 30)]) σ0 σ) : zpc (fX12_words_236 σ x2 s0) (fun r => (zQ [3, 5, 6, 7, 8, 9, 21, 22, 23, 24, 25] [(0, 31, 33)] [4, 10, 11] [(0, 30, 30)]) σ0 (r)) := by
  unfold fX12_words_236
  exact fk_fX12_words_241 h
theorem fk_fX12_words_215 {σ0 : zSt} {σ : zSt} {x2 : Int32} {x7 : Int32} {s0 : Int32} {s1 : Int32} (h : (zQ [3, 5, 6, 7, 8, 9, 21, 22, 23, 24, 25] [(0, 31, 33)] [4, 10, 11] [(0, 30, 30)]) σ0 σ) : zpc (fX12_words_215 σ x2 x7 s0 s1) (fun r => (zQ [3, 5, 6, 7, 8, 9, 21, 22, 23, 24, 25] [(0, 31, 33)] [4, 10, 11] [(0, 30, 30)]) σ0 (r)) := by
  unfold fX12_words_215
  exact zpc_bu (fk_fX12_put h) (fun σ3 hσ3 => zpc_if (fun _ => fk_fX12_words_236 hσ3) (fun _ => zpc_if (fun _ => fk_fX12_words_241 hσ3) (fun _ => fk_fX12_words_236 hσ3)))
theorem fk_fX12_words_210 {σ0 : zSt} {σ : zSt} {x2 : Int32} {x7 : Int32} {s0 : Int32} (h : (zQ [3, 5, 6, 7, 8, 9, 21, 22, 23, 24, 25] [(0, 31, 33)] [4, 10, 11] [(0, 30, 30)]) σ0 σ) : zpc (fX12_words_210 σ x2 x7 s0) (fun r => (zQ [3, 5, 6, 7, 8, 9, 21, 22, 23, 24, 25] [(0, 31, 33)] [4, 10, 11] [(0, 30, 30)]) σ0 (r)) := by
  unfold fX12_words_210
  exact fk_fX12_words_215 h
theorem fk_fX12_words_193 {σ0 : zSt} {σ : zSt} {x2 : Int32} {x6 : Int32} {x7 : Int32} {s0 : Int32} {s1 : Int32} (h : (zQ [3, 5, 6, 7, 8, 9, 21, 22, 23, 24, 25] [(0, 31, 33)] [4, 10, 11] [(0, 30, 30)]) σ0 σ) : zpc (fX12_words_193 σ x2 x6 x7 s0 s1) (fun r => (zQ [3, 5, 6, 7, 8, 9, 21, 22, 23, 24, 25] [(0, 31, 33)] [4, 10, 11] [(0, 30, 30)]) σ0 (r)) := by
  unfold fX12_words_193
  exact zpc_bu (fk_fX12_put h) (fun σ4 hσ4 => zpc_if (fun _ => fk_fX12_words_210 hσ4) (fun _ => zpc_if (fun _ => fk_fX12_words_215 hσ4) (fun _ => fk_fX12_words_210 hσ4)))
theorem fk_fX12_words_123 {σ0 : zSt} {σ : zSt} {x2 : Int32} {x3 : Int32} {x4 : Int32} {x5 : Int32} {x6 : Int32} {x7 : Int32} {s0 : Int32} {s1 : Int32} (h : (zQ [3, 5, 6, 7, 8, 9, 21, 22, 23, 24, 25] [(0, 31, 33)] [4, 10, 11] [(0, 30, 30)]) σ0 σ) : zpc (fX12_words_123 σ x2 x3 x4 x5 x6 x7 s0 s1) (fun r => (zQ [3, 5, 6, 7, 8, 9, 21, 22, 23, 24, 25] [(0, 31, 33)] [4, 10, 11] [(0, 30, 30)]) σ0 (r)) := by
  unfold fX12_words_123
  exact zpc_bu (fk_fX12_put h) (fun σ5 hσ5 => zpc_bu (fk_fX12_xy hσ5) (fun σ6 hσ6 => zpc_if (fun _ => zpc_if (fun _ => fk_fX12_words_193 hσ6) (fun _ => fk_fX12_words_193 hσ6)) (fun _ => zpc_if (fun _ => fk_fX12_words_193 hσ6) (fun _ => fk_fX12_words_193 hσ6))))
theorem fk_fX12_words_104 {σ0 : zSt} {σ : zSt} {x2 : Int32} {x3 : Int32} {x4 : Int32} {x5 : Int32} {x6 : Int32} {x7 : Int32} {s0 : Int32} {s1 : Int32} (h : (zQ [3, 5, 6, 7, 8, 9, 21, 22, 23, 24, 25] [(0, 31, 33)] [4, 10, 11] [(0, 30, 30)]) σ0 σ) : zpc (fX12_words_104 σ x2 x3 x4 x5 x6 x7 s0 s1) (fun r => (zQ [3, 5, 6, 7, 8, 9, 21, 22, 23, 24, 25] [(0, 31, 33)] [4, 10, 11] [(0, 30, 30)]) σ0 (r)) := by
  unfold fX12_words_104
  exact zpc_bu (fk_fX12_put h) (fun σ7 hσ7 => zpc_if (fun _ => fk_fX12_words_123 hσ7) (fun _ => fk_fX12_words_123 hσ7))
theorem fk_fX12_words_80 {σ0 : zSt} {σ : zSt} {x2 : Int32} {x3 : Int32} {x4 : Int32} {x5 : Int32} {x6 : Int32} {s0 : Int32} (h : (zQ [3, 5, 6, 7, 8, 9, 21, 22, 23, 24, 25] [(0, 31, 33)] [4, 10, 11] [(0, 30, 30)]) σ0 σ) : zpc (fX12_words_80 σ x2 x3 x4 x5 x6 s0) (fun r => (zQ [3, 5, 6, 7, 8, 9, 21, 22, 23, 24, 25] [(0, 31, 33)] [4, 10, 11] [(0, 30, 30)]) σ0 (r)) := by
  unfold fX12_words_80
  exact zpc_bu (fk_fX12_hlTo h) (fun σ8 hσ8 => zpc_if (fun _ => fk_fX12_words_104 hσ8) (fun _ => fk_fX12_words_104 hσ8))
theorem fk_fX12_words_53 {σ0 : zSt} {σ : zSt} {x2 : Int32} {x3 : Int32} {x4 : Int32} {x5 : Int32} {s0 : Int32} (h : (zQ [3, 5, 6, 7, 8, 9, 21, 22, 23, 24, 25] [(0, 31, 33)] [4, 10, 11] [(0, 30, 30)]) σ0 σ) : zpc (fX12_words_53 σ x2 x3 x4 x5 s0) (fun r => (zQ [3, 5, 6, 7, 8, 9, 21, 22, 23, 24, 25] [(0, 31, 33)] [4, 10, 11] [(0, 30, 30)]) σ0 (r)) := by
  unfold fX12_words_53
  exact zpc_if (fun _ => fk_fX12_words_80 h) (fun _ => fk_fX12_words_80 h)
theorem fk_fX12_words {σ0 : zSt} {σ : zSt} {x1 : Int32} {x2 : Int32} (h : (zQ [3, 5, 6, 7, 8, 9, 21, 22, 23, 24, 25] [(0, 31, 33)] [4, 10, 11] [(0, 30, 30)]) σ0 σ) : zpc (fX12_words σ x1 x2) (fun r => (zQ [3, 5, 6, 7, 8, 9, 21, 22, 23, 24, 25] [(0, 31, 33)] [4, 10, 11] [(0, 30, 30)]) σ0 (r)) := by
  unfold fX12_words
  exact zpc_bi (fk_fX12_hl h) (fun σ9 v10 hσ9 => zpc_bi (fk_fX12_rp hσ9) (fun σ11 v12 hσ11 => zpc_bi (fk_fX12_flag hσ11) (fun σ13 v14 hσ13 => zpc_ck (zpc_bs (zQ.wi hσ13 rfl) (fun σ15 hσ15 => zpc_if (fun _ => fk_fX12_words_53 hσ15) (fun _ => fk_fX12_words_53 hσ15))))))
theorem fk_fX12_more_387 {σ0 : zSt} {σ : zSt} {s0 : Int32} {s1 : Int32} (h : (zQ [3, 5, 6, 7, 8, 9, 21, 22, 23, 24, 25] [(0, 31, 33)] [4, 10, 11] [(0, 30, 30)]) σ0 σ) : zpc (fX12_more_387 σ s0 s1) (fun r => (zQ [3, 5, 6, 7, 8, 9, 21, 22, 23, 24, 25] [(0, 31, 33)] [4, 10, 11] [(0, 30, 30)]) σ0 (r.1)) := by
  unfold fX12_more_387
  exact zpc_ck (zpc_bs (zQ.wi h rfl) (fun σ1 hσ1 => zpc_some hσ1))
theorem fk_fX12_more_281 {σ0 : zSt} {σ : zSt} {x7 : Int32} (h : (zQ [3, 5, 6, 7, 8, 9, 21, 22, 23, 24, 25] [(0, 31, 33)] [4, 10, 11] [(0, 30, 30)]) σ0 σ) : zpc (fX12_more_281 σ x7) (fun r => (zQ [3, 5, 6, 7, 8, 9, 21, 22, 23, 24, 25] [(0, 31, 33)] [4, 10, 11] [(0, 30, 30)]) σ0 (r.1)) := by
  unfold fX12_more_281
  exact zpc_ck (zpc_bs (zQ.wi h rfl) (fun σ2 hσ2 => zpc_some hσ2))
theorem fk_fX12_more_234 {σ0 : zSt} {σ : zSt} {s0 : Int32} {s1 : Int32} (h : (zQ [3, 5, 6, 7, 8, 9, 21, 22, 23, 24, 25] [(0, 31, 33)] [4, 10, 11] [(0, 30, 30)]) σ0 σ) : zpc (fX12_more_234 σ s0 s1) (fun r => (zQ [3, 5, 6, 7, 8, 9, 21, 22, 23, 24, 25] [(0, 31, 33)] [4, 10, 11] [(0, 30, 30)]) σ0 (r.1)) := by
  unfold fX12_more_234
  exact zpc_bu (fk_fX12_words h) (fun σ3 hσ3 => zpc_some hσ3)
theorem fk_fX12_more_195 {σ0 : zSt} {σ : zSt} {s0 : Int32} {s1 : Int32} (h : (zQ [3, 5, 6, 7, 8, 9, 21, 22, 23, 24, 25] [(0, 31, 33)] [4, 10, 11] [(0, 30, 30)]) σ0 σ) : zpc (fX12_more_195 σ s0 s1) (fun r => (zQ [3, 5, 6, 7, 8, 9, 21, 22, 23, 24, 25] [(0, 31, 33)] [4, 10, 11] [(0, 30, 30)]) σ0 (r.1)) := by
  unfold fX12_more_195
  exact zpc_bu (fk_fX12_portTo h) (fun σ4 hσ4 => zpc_bi (fk_fX12_pair hσ4) (fun σ5 v6 hσ5 => zpc_ck (zpc_bs (zQ.wi hσ5 rfl) (fun σ7 hσ7 => zpc_some hσ7))))
theorem fk_fX12_more_133 {σ0 : zSt} {σ : zSt} {x5 : Int32} {x6 : Int32} (h : (zQ [3, 5, 6, 7, 8, 9, 21, 22, 23, 24, 25] [(0, 31, 33)] [4, 10, 11] [(0, 30, 30)]) σ0 σ) : zpc (fX12_more_133 σ x5 x6) (fun r => (zQ [3, 5, 6, 7, 8, 9, 21, 22, 23, 24, 25] [(0, 31, 33)] [4, 10, 11] [(0, 30, 30)]) σ0 (r.1)) := by
  unfold fX12_more_133
  exact zpc_bu (fk_fX12_by h) (fun σ8 hσ8 => zpc_bi (fk_fX12_isEven hσ8) (fun σ9 v10 hσ9 => zpc_bu (fk_fX12_put hσ9) (fun σ11 hσ11 => zpc_bu (fk_fX12_put hσ11) (fun σ12 hσ12 => zpc_bu (fk_fX12_put hσ12) (fun σ13 hσ13 => zpc_ck (zpc_bs (zQ.wi hσ13 rfl) (fun σ14 hσ14 => zpc_some hσ14)))))))
theorem fk_fX12_more_42 {σ0 : zSt} {σ : zSt} {x2 : Int32} {x3 : Int32} {x4 : Int32} (h : (zQ [3, 5, 6, 7, 8, 9, 21, 22, 23, 24, 25] [(0, 31, 33)] [4, 10, 11] [(0, 30, 30)]) σ0 σ) : zpc (fX12_more_42 σ x2 x3 x4) (fun r => (zQ [3, 5, 6, 7, 8, 9, 21, 22, 23, 24, 25] [(0, 31, 33)] [4, 10, 11] [(0, 30, 30)]) σ0 (r.1)) := by
  unfold fX12_more_42
  exact zpc_if (fun _ => zpc_if (fun _ => zpc_bi (fk_fX12_pair h) (fun σ15 v16 hσ15 => zpc_bv (fun v17 _ => zpc_ck (zpc_bi (fk_fX12_port hσ15) (fun σ18 v19 hσ18 => zpc_if (fun _ => fk_fX12_more_133 hσ18) (fun _ => zpc_bu (fk_fX12_rTo hσ18) (fun σ20 hσ20 => fk_fX12_more_133 hσ20))))))) (fun _ => zpc_if (fun _ => zpc_ck (zpc_if (fun _ => fk_fX12_more_195 h) (fun _ => zpc_bi (fk_fX12_r h) (fun σ21 v22 hσ21 => fk_fX12_more_195 hσ21)))) (fun _ => zpc_if (fun _ => zpc_ck (zpc_if (fun _ => fk_fX12_more_234 h) (fun _ => fk_fX12_more_234 h))) (fun _ => zpc_if (fun _ => zpc_bi (fk_fX12_nextWord h) (fun σ23 v24 hσ23 => zpc_ck (zpc_if (fun _ => zpc_bi (fk_fX12_rp hσ23) (fun σ28 v29 hσ28 => zpc_bu (fk_fX12_wordTo hσ28) (fun σ30 hσ30 => fk_fX12_more_281 hσ30))) (fun _ => zpc_bi (fk_fX12_word hσ23) (fun σ25 v26 hσ25 => zpc_bu (fk_fX12_rpTo hσ25) (fun σ27 hσ27 => fk_fX12_more_281 hσ27)))))) (fun _ => zpc_if (fun _ => zpc_ck (zpc_bv (fun v31 _ => zpc_ck (zpc_bs (zQ.wi h rfl) (fun σ32 hσ32 => zpc_bu (fk_fX12_does hσ32) (fun σ33 hσ33 => zpc_some hσ33)))))) (fun _ => zpc_if (fun _ => zpc_bi (fk_fX12_pop h) (fun σ34 v35 hσ34 => zpc_ck (zpc_bs (zQ.wi hσ34 rfl) (fun σ36 hσ36 => zpc_ck (zpc_ck (zpc_bs (zQ.wi hσ36 rfl) (fun σ37 hσ37 => zpc_ck (zpc_ck (zpc_bs (zQ.wi hσ37 rfl) (fun σ38 hσ38 => zpc_some hσ38)))))))))) (fun _ => zpc_if (fun _ => zpc_ck (zpc_if (fun _ => zpc_ck (fk_fX12_more_387 h)) (fun _ => fk_fX12_more_387 h))) (fun _ => zpc_bi (fk_fX12_specials h) (fun σ39 v40 hσ39 => zpc_some hσ39))))))))) (fun _ => zpc_some h)
theorem fk_fX12_more {σ0 : zSt} {σ : zSt} {x1 : Int32} (h : (zQ [3, 5, 6, 7, 8, 9, 21, 22, 23, 24, 25] [(0, 31, 33)] [4, 10, 11] [(0, 30, 30)]) σ0 σ) : zpc (fX12_more σ x1) (fun r => (zQ [3, 5, 6, 7, 8, 9, 21, 22, 23, 24, 25] [(0, 31, 33)] [4, 10, 11] [(0, 30, 30)]) σ0 (r.1)) := by
  unfold fX12_more
  exact zpc_bv (fun v41 _ => zpc_bv (fun v42 _ => zpc_bv (fun v43 _ => zpc_if (fun _ => zpc_if (fun _ => fk_fX12_more_42 h) (fun _ => zpc_if (fun _ => fk_fX12_more_42 h) (fun _ => zpc_bi (fk_fX12_blocks h) (fun σ44 v45 hσ44 => zpc_some hσ44)))) (fun _ => fk_fX12_more_42 h))))
theorem fk_fX12_prefixed_r1_33 {σ0 : zSt} {σ : zSt} (h : (zQ [3, 5, 6, 7, 8, 9, 21, 22, 23, 24, 25] [(0, 31, 33)] [4, 10, 11] [(0, 30, 30)]) σ0 σ) : zpc (fX12_prefixed_r1_33 σ) (fun r => (zQ [3, 5, 6, 7, 8, 9, 21, 22, 23, 24, 25] [(0, 31, 33)] [4, 10, 11] [(0, 30, 30)]) σ0 (r.1)) := by
  unfold fX12_prefixed_r1_33
  exact zpc_ck (zpc_bs (zQ.wi h rfl) (fun σ1 hσ1 => zpc_some hσ1))
theorem fk_fX12_prefixed_r1_154 {σ0 : zSt} {σ : zSt} {s0 : Int32} (h : (zQ [3, 5, 6, 7, 8, 9, 21, 22, 23, 24, 25] [(0, 31, 33)] [4, 10, 11] [(0, 30, 30)]) σ0 σ) : zpc (fX12_prefixed_r1_154 σ s0) (fun r => (zQ [3, 5, 6, 7, 8, 9, 21, 22, 23, 24, 25] [(0, 31, 33)] [4, 10, 11] [(0, 30, 30)]) σ0 (r.1)) := by
  unfold fX12_prefixed_r1_154
  exact zpc_some h
theorem fk_fX12_prefixed_r1_135 {σ0 : zSt} {σ : zSt} {x4 : Int32} {x5 : Int32} (h : (zQ [3, 5, 6, 7, 8, 9, 21, 22, 23, 24, 25] [(0, 31, 33)] [4, 10, 11] [(0, 30, 30)]) σ0 σ) : zpc (fX12_prefixed_r1_135 σ x4 x5) (fun r => (zQ [3, 5, 6, 7, 8, 9, 21, 22, 23, 24, 25] [(0, 31, 33)] [4, 10, 11] [(0, 30, 30)]) σ0 (r.1)) := by
  unfold fX12_prefixed_r1_135
  exact zpc_if (fun _ => fk_fX12_prefixed_r1_154 h) (fun _ => fk_fX12_prefixed_r1_154 h)
theorem fk_fX12_prefixed_r1_244 {σ0 : zSt} {σ : zSt} {x1 : Int32} {x3 : Int32} {s0 : Int32} (h : (zQ [3, 5, 6, 7, 8, 9, 21, 22, 23, 24, 25] [(0, 31, 33)] [4, 10, 11] [(0, 30, 30)]) σ0 σ) : zpc (fX12_prefixed_r1_244 σ x1 x3 s0) (fun r => (zQ [3, 5, 6, 7, 8, 9, 21, 22, 23, 24, 25] [(0, 31, 33)] [4, 10, 11] [(0, 30, 30)]) σ0 (r.1)) := by
  unfold fX12_prefixed_r1_244
  exact zpc_if (fun _ => zpc_bs (zQ.wi h rfl) (fun σ8 hσ8 => zpc_none)) (fun _ => zpc_ck (zpc_bi (fk_fX12_next h) (fun σ2 v3 hσ2 => zpc_bi (fk_fX12_signed hσ2) (fun σ4 v5 hσ4 => zpc_ck (zpc_bs (zQ.wi hσ4 rfl) (fun σ6 hσ6 => zpc_ck (zpc_bs (zQ.wi hσ6 rfl) (fun σ7 hσ7 => zpc_none))))))))
theorem fk_fX12_prefixed_r1_243 {σ0 : zSt} {σ : zSt} {x1 : Int32} {x3 : Int32} (h : (zQ [3, 5, 6, 7, 8, 9, 21, 22, 23, 24, 25] [(0, 31, 33)] [4, 10, 11] [(0, 30, 30)]) σ0 σ) : zpc (fX12_prefixed_r1_243 σ x1 x3) (fun r => (zQ [3, 5, 6, 7, 8, 9, 21, 22, 23, 24, 25] [(0, 31, 33)] [4, 10, 11] [(0, 30, 30)]) σ0 (r.1)) := by
  unfold fX12_prefixed_r1_243
  exact fk_fX12_prefixed_r1_244 h
theorem fk_fX12_prefixed_r1_239 {σ0 : zSt} {σ : zSt} {x1 : Int32} {x3 : Int32} (h : (zQ [3, 5, 6, 7, 8, 9, 21, 22, 23, 24, 25] [(0, 31, 33)] [4, 10, 11] [(0, 30, 30)]) σ0 σ) : zpc (fX12_prefixed_r1_239 σ x1 x3) (fun r => (zQ [3, 5, 6, 7, 8, 9, 21, 22, 23, 24, 25] [(0, 31, 33)] [4, 10, 11] [(0, 30, 30)]) σ0 (r.1)) := by
  unfold fX12_prefixed_r1_239
  exact fk_fX12_prefixed_r1_244 h
theorem fk_fX12_prefixed_r1_226 {σ0 : zSt} {σ : zSt} {x1 : Int32} {x3 : Int32} {x5 : Int32} {x6 : Int32} (h : (zQ [3, 5, 6, 7, 8, 9, 21, 22, 23, 24, 25] [(0, 31, 33)] [4, 10, 11] [(0, 30, 30)]) σ0 σ) : zpc (fX12_prefixed_r1_226 σ x1 x3 x5 x6) (fun r => (zQ [3, 5, 6, 7, 8, 9, 21, 22, 23, 24, 25] [(0, 31, 33)] [4, 10, 11] [(0, 30, 30)]) σ0 (r.1)) := by
  unfold fX12_prefixed_r1_226
  exact zpc_if (fun _ => zpc_if (fun _ => fk_fX12_prefixed_r1_239 h) (fun _ => fk_fX12_prefixed_r1_243 h)) (fun _ => fk_fX12_prefixed_r1_243 h)
theorem fk_fX12_prefixed_r1_220 {σ0 : zSt} {σ : zSt} {x1 : Int32} {x3 : Int32} {x5 : Int32} {x6 : Int32} (h : (zQ [3, 5, 6, 7, 8, 9, 21, 22, 23, 24, 25] [(0, 31, 33)] [4, 10, 11] [(0, 30, 30)]) σ0 σ) : zpc (fX12_prefixed_r1_220 σ x1 x3 x5 x6) (fun r => (zQ [3, 5, 6, 7, 8, 9, 21, 22, 23, 24, 25] [(0, 31, 33)] [4, 10, 11] [(0, 30, 30)]) σ0 (r.1)) := by
  unfold fX12_prefixed_r1_220
  exact zpc_if (fun _ => fk_fX12_prefixed_r1_226 h) (fun _ => fk_fX12_prefixed_r1_239 h)
theorem fk_fX12_prefixed_r1_200 {σ0 : zSt} {σ : zSt} {x1 : Int32} {x3 : Int32} {x4 : Int32} {x5 : Int32} {x6 : Int32} (h : (zQ [3, 5, 6, 7, 8, 9, 21, 22, 23, 24, 25] [(0, 31, 33)] [4, 10, 11] [(0, 30, 30)]) σ0 σ) : zpc (fX12_prefixed_r1_200 σ x1 x3 x4 x5 x6) (fun r => (zQ [3, 5, 6, 7, 8, 9, 21, 22, 23, 24, 25] [(0, 31, 33)] [4, 10, 11] [(0, 30, 30)]) σ0 (r.1)) := by
  unfold fX12_prefixed_r1_200
  exact zpc_if (fun _ => zpc_if (fun _ => fk_fX12_prefixed_r1_220 h) (fun _ => zpc_if (fun _ => fk_fX12_prefixed_r1_220 h) (fun _ => fk_fX12_prefixed_r1_226 h))) (fun _ => fk_fX12_prefixed_r1_226 h)
theorem fk_fX12_prefixed_r1 {σ0 : zSt} {σ : zSt} {x1 : Int32} (h : (zQ [3, 5, 6, 7, 8, 9, 21, 22, 23, 24, 25] [(0, 31, 33)] [4, 10, 11] [(0, 30, 30)]) σ0 σ) : zpc (fX12_prefixed_r1 σ x1) (fun r => (zQ [3, 5, 6, 7, 8, 9, 21, 22, 23, 24, 25] [(0, 31, 33)] [4, 10, 11] [(0, 30, 30)]) σ0 (r.1)) := by
  unfold fX12_prefixed_r1
  exact zpc_ck (zpc_bi (fk_fX12_read h) (fun σ9 v10 hσ9 => zpc_if (fun _ => fk_fX12_prefixed_r1_33 hσ9) (fun _ => zpc_if (fun _ => fk_fX12_prefixed_r1_33 hσ9) (fun _ => zpc_if (fun _ => fk_fX12_prefixed_r1_33 hσ9) (fun _ => zpc_bi (fk_fX12_fetch hσ9) (fun σ11 v12 hσ11 => zpc_if (fun _ => zpc_ck (zpc_bi (fk_fX12_next hσ11) (fun σ16 v17 hσ16 => zpc_bi (fk_fX12_signed hσ16) (fun σ18 v19 hσ18 => zpc_ck (zpc_bs (zQ.wi hσ18 rfl) (fun σ20 hσ20 => zpc_ck (zpc_bs (zQ.wi hσ20 rfl) (fun σ21 hσ21 => zpc_bi (fk_fX12_next hσ21) (fun σ22 v23 hσ22 => zpc_bi (fk_fX12_turn hσ22) (fun σ24 v25 hσ24 => zpc_if (fun _ => fk_fX12_prefixed_r1_135 hσ24) (fun _ => zpc_if (fun _ => fk_fX12_prefixed_r1_135 hσ24) (fun _ => zpc_ck (zpc_bs (zQ.wi hσ24 rfl) (fun σ26 hσ26 => zpc_bu (fk_fX12_rTo hσ26) (fun σ27 hσ27 => fk_fX12_prefixed_r1_135 hσ27))))))))))))))) (fun _ => zpc_bv (fun v13 _ => zpc_bv (fun v14 _ => zpc_bv (fun v15 _ => zpc_if (fun _ => zpc_if (fun _ => fk_fX12_prefixed_r1_200 hσ11) (fun _ => zpc_if (fun _ => fk_fX12_prefixed_r1_200 hσ11) (fun _ => zpc_if (fun _ => fk_fX12_prefixed_r1_239 hσ11) (fun _ => fk_fX12_prefixed_r1_200 hσ11)))) (fun _ => fk_fX12_prefixed_r1_200 hσ11)))))))))))
theorem fk_fX12_more3_r1_119 {σ0 : zSt} {σ : zSt} {s0 : Int32} (h : (zQ [3, 5, 6, 7, 8, 9, 21, 22, 23, 24, 25] [(0, 31, 33)] [4, 10, 11] [(0, 30, 30)]) σ0 σ) : zpc (fX12_more3_r1_119 σ s0) (fun r => (zQ [3, 5, 6, 7, 8, 9, 21, 22, 23, 24, 25] [(0, 31, 33)] [4, 10, 11] [(0, 30, 30)]) σ0 (r.1)) := by
  unfold fX12_more3_r1_119
  exact zpc_bu (fk_fX12_push h) (fun σ1 hσ1 => zpc_some hσ1)
theorem fk_fX12_more3_r1_200 {σ0 : zSt} {σ : zSt} {s0 : Int32} (h : (zQ [3, 5, 6, 7, 8, 9, 21, 22, 23, 24, 25] [(0, 31, 33)] [4, 10, 11] [(0, 30, 30)]) σ0 σ) : zpc (fX12_more3_r1_200 σ s0) (fun r => (zQ [3, 5, 6, 7, 8, 9, 21, 22, 23, 24, 25] [(0, 31, 33)] [4, 10, 11] [(0, 30, 30)]) σ0 (r.1)) := by
  unfold fX12_more3_r1_200
  exact zpc_some h
theorem fk_fX12_more3_r1_197 {σ0 : zSt} {σ : zSt} {s0 : Int32} (h : (zQ [3, 5, 6, 7, 8, 9, 21, 22, 23, 24, 25] [(0, 31, 33)] [4, 10, 11] [(0, 30, 30)]) σ0 σ) : zpc (fX12_more3_r1_197 σ s0) (fun r => (zQ [3, 5, 6, 7, 8, 9, 21, 22, 23, 24, 25] [(0, 31, 33)] [4, 10, 11] [(0, 30, 30)]) σ0 (r.1)) := by
  unfold fX12_more3_r1_197
  exact zpc_bi (fk_fX12_prefixed_r1 h) (fun σ2 v3 hσ2 => fk_fX12_more3_r1_200 hσ2)
theorem fk_fX12_more3_r1 {σ0 : zSt} {σ : zSt} {x1 : Int32} {x2 : Int32} (h : (zQ [3, 5, 6, 7, 8, 9, 21, 22, 23, 24, 25] [(0, 31, 33)] [4, 10, 11] [(0, 30, 30)]) σ0 σ) : zpc (fX12_more3_r1 σ x1 x2) (fun r => (zQ [3, 5, 6, 7, 8, 9, 21, 22, 23, 24, 25] [(0, 31, 33)] [4, 10, 11] [(0, 30, 30)]) σ0 (r.1)) := by
  unfold fX12_more3_r1
  exact zpc_bv (fun v4 _ => zpc_if (fun _ => zpc_bi (fk_fX12_nextWord h) (fun σ22 v23 hσ22 => zpc_ck (zpc_bs (zQ.wi hσ22 rfl) (fun σ24 hσ24 => zpc_bi (fk_fX12_cc hσ24) (fun σ25 v26 hσ25 => zpc_if (fun _ => zpc_some hσ25) (fun _ => zpc_ck (zpc_bu (fk_fX12_push hσ25) (fun σ27 hσ27 => zpc_ck (zpc_ck (zpc_bs (zQ.wi hσ27 rfl) (fun σ28 hσ28 => zpc_some hσ28))))))))))) (fun _ => zpc_if (fun _ => zpc_bi (fk_fX12_next h) (fun σ19 v20 hσ19 => zpc_bu (fk_fX12_does hσ19) (fun σ21 hσ21 => zpc_some hσ21))) (fun _ => zpc_if (fun _ => zpc_bu (fk_fX12_call h) (fun σ18 hσ18 => zpc_some hσ18)) (fun _ => zpc_ck (zpc_if (fun _ => zpc_if (fun _ => zpc_bi (fk_fX12_pair h) (fun σ16 v17 hσ16 => fk_fX12_more3_r1_119 hσ16)) (fun _ => zpc_bi (fk_fX12_rp h) (fun σ14 v15 hσ14 => fk_fX12_more3_r1_119 hσ14))) (fun _ => zpc_if (fun _ => zpc_bi (fk_fX12_nextWord h) (fun σ9 v10 hσ9 => zpc_ck (zpc_bs (zQ.wi hσ9 rfl) (fun σ11 hσ11 => zpc_ck (zpc_bu (fk_fX12_push hσ11) (fun σ12 hσ12 => zpc_ck (zpc_ck (zpc_bs (zQ.wi hσ12 rfl) (fun σ13 hσ13 => zpc_some hσ13))))))))) (fun _ => zpc_if (fun _ => zpc_bi (fk_fX12_fetch h) (fun σ5 v6 hσ5 => zpc_bi (fk_fX12_more hσ5) (fun σ7 v8 hσ7 => fk_fX12_more3_r1_200 hσ7))) (fun _ => zpc_if (fun _ => fk_fX12_more3_r1_197 h) (fun _ => fk_fX12_more3_r1_197 h)))))))))
theorem fk_fX12_jump {σ0 : zSt} {σ : zSt} {x1 : Int32} (h : (zQ [3, 5, 6, 7, 8, 9, 21, 22, 23, 24, 25] [(0, 31, 33)] [4, 10, 11] [(0, 30, 30)]) σ0 σ) : zpc (fX12_jump σ x1) (fun r => (zQ [3, 5, 6, 7, 8, 9, 21, 22, 23, 24, 25] [(0, 31, 33)] [4, 10, 11] [(0, 30, 30)]) σ0 (r)) := by
  unfold fX12_jump
  exact zpc_ck (zpc_ck (zpc_bs (zQ.wi h rfl) (fun σ1 hσ1 => zpc_ck (zpc_ck (zpc_bs (zQ.wi hσ1 rfl) (fun σ2 hσ2 => zpc_some hσ2))))))
theorem fk_fX12_moves_85 {σ0 : zSt} {σ : zSt} (h : (zQ [3, 5, 6, 7, 8, 9, 21, 22, 23, 24, 25] [(0, 31, 33)] [4, 10, 11] [(0, 30, 30)]) σ0 σ) : zpc (fX12_moves_85 σ) (fun r => (zQ [3, 5, 6, 7, 8, 9, 21, 22, 23, 24, 25] [(0, 31, 33)] [4, 10, 11] [(0, 30, 30)]) σ0 (r.1)) := by
  unfold fX12_moves_85
  exact zpc_some h
theorem fk_fX12_moves_15 {σ0 : zSt} {σ : zSt} {x2 : Int32} {s0 : Int32} (h : (zQ [3, 5, 6, 7, 8, 9, 21, 22, 23, 24, 25] [(0, 31, 33)] [4, 10, 11] [(0, 30, 30)]) σ0 σ) : zpc (fX12_moves_15 σ x2 s0) (fun r => (zQ [3, 5, 6, 7, 8, 9, 21, 22, 23, 24, 25] [(0, 31, 33)] [4, 10, 11] [(0, 30, 30)]) σ0 (r.1)) := by
  unfold fX12_moves_15
  exact zpc_bi (fk_fX12_pair h) (fun σ1 v2 hσ1 => zpc_if (fun _ => zpc_ck (zpc_bu (fk_fX12_write hσ1) (fun σ3 hσ3 => zpc_ck (zpc_ck (zpc_bs (zQ.wi hσ3 rfl) (fun σ4 hσ4 => fk_fX12_moves_85 hσ4)))))) (fun _ => zpc_bi (fk_fX12_read hσ1) (fun σ5 v6 hσ5 => zpc_ck (zpc_bs (zQ.wi hσ5 rfl) (fun σ7 hσ7 => zpc_ck (zpc_bs (zQ.wi hσ7 rfl) (fun σ8 hσ8 => fk_fX12_moves_85 hσ8)))))))
theorem fk_fX12_moves_214 {σ0 : zSt} {σ : zSt} {s0 : Int32} (h : (zQ [3, 5, 6, 7, 8, 9, 21, 22, 23, 24, 25] [(0, 31, 33)] [4, 10, 11] [(0, 30, 30)]) σ0 σ) : zpc (fX12_moves_214 σ s0) (fun r => (zQ [3, 5, 6, 7, 8, 9, 21, 22, 23, 24, 25] [(0, 31, 33)] [4, 10, 11] [(0, 30, 30)]) σ0 (r.1)) := by
  unfold fX12_moves_214
  exact zpc_some h
theorem fk_fX12_moves_201 {σ0 : zSt} {σ : zSt} {x1 : Int32} {s0 : Int32} {s1 : Int32} (h : (zQ [3, 5, 6, 7, 8, 9, 21, 22, 23, 24, 25] [(0, 31, 33)] [4, 10, 11] [(0, 30, 30)]) σ0 σ) : zpc (fX12_moves_201 σ x1 s0 s1) (fun r => (zQ [3, 5, 6, 7, 8, 9, 21, 22, 23, 24, 25] [(0, 31, 33)] [4, 10, 11] [(0, 30, 30)]) σ0 (r.1)) := by
  unfold fX12_moves_201
  exact zpc_ck (zpc_bs (zQ.wi h rfl) (fun σ9 hσ9 => zpc_if (fun _ => fk_fX12_moves_214 hσ9) (fun _ => fk_fX12_moves_214 hσ9)))
theorem fk_fX12_moves_195 {σ0 : zSt} {σ : zSt} {x1 : Int32} {x3 : Int32} {s0 : Int32} (h : (zQ [3, 5, 6, 7, 8, 9, 21, 22, 23, 24, 25] [(0, 31, 33)] [4, 10, 11] [(0, 30, 30)]) σ0 σ) : zpc (fX12_moves_195 σ x1 x3 s0) (fun r => (zQ [3, 5, 6, 7, 8, 9, 21, 22, 23, 24, 25] [(0, 31, 33)] [4, 10, 11] [(0, 30, 30)]) σ0 (r.1)) := by
  unfold fX12_moves_195
  exact fk_fX12_moves_201 h
theorem fk_fX12_moves_160 {σ0 : zSt} {σ : zSt} {x1 : Int32} {x2 : Int32} {x3 : Int32} (h : (zQ [3, 5, 6, 7, 8, 9, 21, 22, 23, 24, 25] [(0, 31, 33)] [4, 10, 11] [(0, 30, 30)]) σ0 σ) : zpc (fX12_moves_160 σ x1 x2 x3) (fun r => (zQ [3, 5, 6, 7, 8, 9, 21, 22, 23, 24, 25] [(0, 31, 33)] [4, 10, 11] [(0, 30, 30)]) σ0 (r.1)) := by
  unfold fX12_moves_160
  exact zpc_if (fun _ => zpc_if (fun _ => zpc_ck (fk_fX12_moves_201 h)) (fun _ => fk_fX12_moves_195 h)) (fun _ => fk_fX12_moves_195 h)
theorem fk_fX12_moves_114 {σ0 : zSt} {σ : zSt} {x1 : Int32} {x2 : Int32} {x3 : Int32} (h : (zQ [3, 5, 6, 7, 8, 9, 21, 22, 23, 24, 25] [(0, 31, 33)] [4, 10, 11] [(0, 30, 30)]) σ0 σ) : zpc (fX12_moves_114 σ x1 x2 x3) (fun r => (zQ [3, 5, 6, 7, 8, 9, 21, 22, 23, 24, 25] [(0, 31, 33)] [4, 10, 11] [(0, 30, 30)]) σ0 (r.1)) := by
  unfold fX12_moves_114
  exact zpc_if (fun _ => zpc_bi (fk_fX12_hl h) (fun σ14 v15 hσ14 => zpc_bu (fk_fX12_wordTo hσ14) (fun σ16 hσ16 => fk_fX12_moves_160 hσ16))) (fun _ => zpc_if (fun _ => zpc_ck (zpc_bu (fk_fX12_write h) (fun σ10 hσ10 => fk_fX12_moves_160 hσ10))) (fun _ => zpc_bi (fk_fX12_read h) (fun σ11 v12 hσ11 => zpc_ck (zpc_bs (zQ.wi hσ11 rfl) (fun σ13 hσ13 => fk_fX12_moves_160 hσ13)))))
theorem fk_fX12_moves {σ0 : zSt} {σ : zSt} {x1 : Int32} {x2 : Int32} (h : (zQ [3, 5, 6, 7, 8, 9, 21, 22, 23, 24, 25] [(0, 31, 33)] [4, 10, 11] [(0, 30, 30)]) σ0 σ) : zpc (fX12_moves σ x1 x2) (fun r => (zQ [3, 5, 6, 7, 8, 9, 21, 22, 23, 24, 25] [(0, 31, 33)] [4, 10, 11] [(0, 30, 30)]) σ0 (r.1)) := by
  unfold fX12_moves
  exact zpc_if (fun _ => zpc_bi (fk_fX12_nextWord h) (fun σ17 v18 hσ17 => zpc_if (fun _ => zpc_if (fun _ => fk_fX12_moves_114 hσ17) (fun _ => zpc_bi (fk_fX12_word hσ17) (fun σ19 v20 hσ19 => zpc_bu (fk_fX12_hlTo hσ19) (fun σ21 hσ21 => fk_fX12_moves_160 hσ21)))) (fun _ => fk_fX12_moves_114 hσ17))) (fun _ => zpc_if (fun _ => fk_fX12_moves_15 h) (fun _ => fk_fX12_moves_15 h))
theorem fk_fX12_zero_154 {σ0 : zSt} {σ : zSt} {s0 : Int32} (h : (zQ [3, 5, 6, 7, 8, 9, 21, 22, 23, 24, 25] [(0, 31, 33)] [4, 10, 11] [(0, 30, 30)]) σ0 σ) : zpc (fX12_zero_154 σ s0) (fun r => (zQ [3, 5, 6, 7, 8, 9, 21, 22, 23, 24, 25] [(0, 31, 33)] [4, 10, 11] [(0, 30, 30)]) σ0 (r.1)) := by
  unfold fX12_zero_154
  exact zpc_some h
theorem fk_fX12_zero_122 {σ0 : zSt} {σ : zSt} {x1 : Int32} {x5 : Int32} (h : (zQ [3, 5, 6, 7, 8, 9, 21, 22, 23, 24, 25] [(0, 31, 33)] [4, 10, 11] [(0, 30, 30)]) σ0 σ) : zpc (fX12_zero_122 σ x1 x5) (fun r => (zQ [3, 5, 6, 7, 8, 9, 21, 22, 23, 24, 25] [(0, 31, 33)] [4, 10, 11] [(0, 30, 30)]) σ0 (r.1)) := by
  unfold fX12_zero_122
  exact zpc_if (fun _ => zpc_if (fun _ => fk_fX12_zero_154 h) (fun _ => fk_fX12_zero_154 h)) (fun _ => zpc_if (fun _ => fk_fX12_zero_154 h) (fun _ => fk_fX12_zero_154 h))
theorem fk_fX12_zero_109 {σ0 : zSt} {σ : zSt} {x1 : Int32} {x4 : Int32} {s0 : Int32} (h : (zQ [3, 5, 6, 7, 8, 9, 21, 22, 23, 24, 25] [(0, 31, 33)] [4, 10, 11] [(0, 30, 30)]) σ0 σ) : zpc (fX12_zero_109 σ x1 x4 s0) (fun r => (zQ [3, 5, 6, 7, 8, 9, 21, 22, 23, 24, 25] [(0, 31, 33)] [4, 10, 11] [(0, 30, 30)]) σ0 (r.1)) := by
  unfold fX12_zero_109
  exact zpc_if (fun _ => fk_fX12_zero_122 h) (fun _ => zpc_bu (fk_fX12_jump h) (fun σ1 hσ1 => fk_fX12_zero_122 hσ1))
theorem fk_fX12_zero_104 {σ0 : zSt} {σ : zSt} {x1 : Int32} {x4 : Int32} (h : (zQ [3, 5, 6, 7, 8, 9, 21, 22, 23, 24, 25] [(0, 31, 33)] [4, 10, 11] [(0, 30, 30)]) σ0 σ) : zpc (fX12_zero_104 σ x1 x4) (fun r => (zQ [3, 5, 6, 7, 8, 9, 21, 22, 23, 24, 25] [(0, 31, 33)] [4, 10, 11] [(0, 30, 30)]) σ0 (r.1)) := by
  unfold fX12_zero_104
  exact fk_fX12_zero_109 h
theorem fk_fX12_zero_67 {σ0 : zSt} {σ : zSt} {x1 : Int32} {x4 : Int32} (h : (zQ [3, 5, 6, 7, 8, 9, 21, 22, 23, 24, 25] [(0, 31, 33)] [4, 10, 11] [(0, 30, 30)]) σ0 σ) : zpc (fX12_zero_67 σ x1 x4) (fun r => (zQ [3, 5, 6, 7, 8, 9, 21, 22, 23, 24, 25] [(0, 31, 33)] [4, 10, 11] [(0, 30, 30)]) σ0 (r.1)) := by
  unfold fX12_zero_67
  exact zpc_if (fun _ => zpc_ck (zpc_if (fun _ => fk_fX12_zero_109 h) (fun _ => fk_fX12_zero_109 h))) (fun _ => zpc_if (fun _ => fk_fX12_zero_104 h) (fun _ => zpc_bi (fk_fX12_cc h) (fun σ2 v3 hσ2 => zpc_if (fun _ => fk_fX12_zero_109 hσ2) (fun _ => fk_fX12_zero_104 hσ2))))
theorem fk_fX12_zero_266 {σ0 : zSt} {σ : zSt} {x6 : Int32} {s0 : Int32} {s1 : Int32} (h : (zQ [3, 5, 6, 7, 8, 9, 21, 22, 23, 24, 25] [(0, 31, 33)] [4, 10, 11] [(0, 30, 30)]) σ0 σ) : zpc (fX12_zero_266 σ x6 s0 s1) (fun r => (zQ [3, 5, 6, 7, 8, 9, 21, 22, 23, 24, 25] [(0, 31, 33)] [4, 10, 11] [(0, 30, 30)]) σ0 (r.1)) := by
  unfold fX12_zero_266
  exact zpc_bu (fk_fX12_put h) (fun σ4 hσ4 => zpc_bu (fk_fX12_put hσ4) (fun σ5 hσ5 => zpc_bu (fk_fX12_xy hσ5) (fun σ6 hσ6 => zpc_some hσ6)))
theorem fk_fX12_zero_249 {σ0 : zSt} {σ : zSt} {x6 : Int32} {s0 : Int32} {s1 : Int32} (h : (zQ [3, 5, 6, 7, 8, 9, 21, 22, 23, 24, 25] [(0, 31, 33)] [4, 10, 11] [(0, 30, 30)]) σ0 σ) : zpc (fX12_zero_249 σ x6 s0 s1) (fun r => (zQ [3, 5, 6, 7, 8, 9, 21, 22, 23, 24, 25] [(0, 31, 33)] [4, 10, 11] [(0, 30, 30)]) σ0 (r.1)) := by
  unfold fX12_zero_249
  exact zpc_bu (fk_fX12_put h) (fun σ7 hσ7 => zpc_if (fun _ => fk_fX12_zero_266 hσ7) (fun _ => fk_fX12_zero_266 hσ7))
theorem fk_fX12_zero_306 {σ0 : zSt} {σ : zSt} {s0 : Int32} {s1 : Int32} (h : (zQ [3, 5, 6, 7, 8, 9, 21, 22, 23, 24, 25] [(0, 31, 33)] [4, 10, 11] [(0, 30, 30)]) σ0 σ) : zpc (fX12_zero_306 σ s0 s1) (fun r => (zQ [3, 5, 6, 7, 8, 9, 21, 22, 23, 24, 25] [(0, 31, 33)] [4, 10, 11] [(0, 30, 30)]) σ0 (r.1)) := by
  unfold fX12_zero_306
  exact zpc_bi (fk_fX12_moves h) (fun σ8 v9 hσ8 => zpc_some hσ8)
theorem fk_fX12_zero_328 {σ0 : zSt} {σ : zSt} {s0 : Int32} {s1 : Int32} {s2 : Int32} (h : (zQ [3, 5, 6, 7, 8, 9, 21, 22, 23, 24, 25] [(0, 31, 33)] [4, 10, 11] [(0, 30, 30)]) σ0 σ) : zpc (fX12_zero_328 σ s0 s1 s2) (fun r => (zQ [3, 5, 6, 7, 8, 9, 21, 22, 23, 24, 25] [(0, 31, 33)] [4, 10, 11] [(0, 30, 30)]) σ0 (r.1)) := by
  unfold fX12_zero_328
  exact zpc_bu (fk_fX12_rpTo h) (fun σ10 hσ10 => zpc_some hσ10)
theorem fk_fX12_zero_178 {σ0 : zSt} {σ : zSt} {x1 : Int32} {x2 : Int32} {x3 : Int32} (h : (zQ [3, 5, 6, 7, 8, 9, 21, 22, 23, 24, 25] [(0, 31, 33)] [4, 10, 11] [(0, 30, 30)]) σ0 σ) : zpc (fX12_zero_178 σ x1 x2 x3) (fun r => (zQ [3, 5, 6, 7, 8, 9, 21, 22, 23, 24, 25] [(0, 31, 33)] [4, 10, 11] [(0, 30, 30)]) σ0 (r.1)) := by
  unfold fX12_zero_178
  exact zpc_if (fun _ => zpc_bi (fk_fX12_hl h) (fun σ13 v14 hσ13 => zpc_bi (fk_fX12_rp hσ13) (fun σ15 v16 hσ15 => zpc_ck (zpc_bs (zQ.wi hσ15 rfl) (fun σ17 hσ17 => zpc_bv (fun v18 _ => zpc_bu (fk_fX12_hlTo hσ17) (fun σ19 hσ19 => zpc_if (fun _ => fk_fX12_zero_249 hσ19) (fun _ => fk_fX12_zero_249 hσ19)))))))) (fun _ => zpc_if (fun _ => zpc_ck (zpc_if (fun _ => fk_fX12_zero_306 h) (fun _ => fk_fX12_zero_306 h))) (fun _ => zpc_bi (fk_fX12_rp h) (fun σ11 v12 hσ11 => zpc_ck (zpc_if (fun _ => fk_fX12_zero_328 hσ11) (fun _ => fk_fX12_zero_328 hσ11)))))
theorem fk_fX12_zero {σ0 : zSt} {σ : zSt} {x1 : Int32} {x2 : Int32} (h : (zQ [3, 5, 6, 7, 8, 9, 21, 22, 23, 24, 25] [(0, 31, 33)] [4, 10, 11] [(0, 30, 30)]) σ0 σ) : zpc (fX12_zero σ x1 x2) (fun r => (zQ [3, 5, 6, 7, 8, 9, 21, 22, 23, 24, 25] [(0, 31, 33)] [4, 10, 11] [(0, 30, 30)]) σ0 (r.1)) := by
  unfold fX12_zero
  exact zpc_bv (fun v20 _ => zpc_if (fun _ => zpc_if (fun _ => zpc_some h) (fun _ => zpc_if (fun _ => zpc_bu (fk_fX12_change h) (fun σ29 hσ29 => zpc_bu (fk_fX12_change hσ29) (fun σ30 hσ30 => zpc_some hσ30))) (fun _ => zpc_bi (fk_fX12_next h) (fun σ24 v25 hσ24 => zpc_bi (fk_fX12_signed hσ24) (fun σ26 v27 hσ26 => zpc_if (fun _ => zpc_ck (zpc_ck (zpc_bs (zQ.wi hσ26 rfl) (fun σ28 hσ28 => fk_fX12_zero_67 hσ28)))) (fun _ => fk_fX12_zero_67 hσ26)))))) (fun _ => zpc_if (fun _ => zpc_ck (zpc_if (fun _ => zpc_bi (fk_fX12_nextWord h) (fun σ21 v22 hσ21 => zpc_bu (fk_fX12_rpTo hσ21) (fun σ23 hσ23 => zpc_some hσ23))) (fun _ => fk_fX12_zero_178 h))) (fun _ => fk_fX12_zero_178 h)))
theorem fk_fX12_adjusts_130 {σ0 : zSt} {σ : zSt} {s0 : Int32} {s1 : Int32} (h : (zQ [3, 5, 6, 7, 8, 9, 21, 22, 23, 24, 25] [(0, 31, 33)] [4, 10, 11] [(0, 30, 30)]) σ0 σ) : zpc (fX12_adjusts_130 σ s0 s1) (fun r => (zQ [3, 5, 6, 7, 8, 9, 21, 22, 23, 24, 25] [(0, 31, 33)] [4, 10, 11] [(0, 30, 30)]) σ0 (r)) := by
  unfold fX12_adjusts_130
  exact zpc_ck (zpc_bs (zQ.wi h rfl) (fun σ1 hσ1 => zpc_ck (zpc_bu (fk_fX12_by hσ1) (fun σ2 hσ2 => zpc_ck (zpc_bi (fk_fX12_isEven hσ2) (fun σ3 v4 hσ3 => zpc_bu (fk_fX12_put hσ3) (fun σ5 hσ5 => zpc_some hσ5)))))))
theorem fk_fX12_adjusts_105 {σ0 : zSt} {σ : zSt} {x1 : Int32} {x2 : Int32} {s0 : Int32} {s1 : Int32} (h : (zQ [3, 5, 6, 7, 8, 9, 21, 22, 23, 24, 25] [(0, 31, 33)] [4, 10, 11] [(0, 30, 30)]) σ0 σ) : zpc (fX12_adjusts_105 σ x1 x2 s0 s1) (fun r => (zQ [3, 5, 6, 7, 8, 9, 21, 22, 23, 24, 25] [(0, 31, 33)] [4, 10, 11] [(0, 30, 30)]) σ0 (r)) := by
  unfold fX12_adjusts_105
  exact zpc_bu (fk_fX12_put h) (fun σ6 hσ6 => zpc_bi (fk_fX12_flag hσ6) (fun σ7 v8 hσ7 => zpc_if (fun _ => fk_fX12_adjusts_130 hσ7) (fun _ => fk_fX12_adjusts_130 hσ7)))
theorem fk_fX12_adjusts_104 {σ0 : zSt} {σ : zSt} {x1 : Int32} {x2 : Int32} {s0 : Int32} (h : (zQ [3, 5, 6, 7, 8, 9, 21, 22, 23, 24, 25] [(0, 31, 33)] [4, 10, 11] [(0, 30, 30)]) σ0 σ) : zpc (fX12_adjusts_104 σ x1 x2 s0) (fun r => (zQ [3, 5, 6, 7, 8, 9, 21, 22, 23, 24, 25] [(0, 31, 33)] [4, 10, 11] [(0, 30, 30)]) σ0 (r)) := by
  unfold fX12_adjusts_104
  exact fk_fX12_adjusts_105 h
theorem fk_fX12_adjusts_55 {σ0 : zSt} {σ : zSt} {x1 : Int32} {x2 : Int32} (h : (zQ [3, 5, 6, 7, 8, 9, 21, 22, 23, 24, 25] [(0, 31, 33)] [4, 10, 11] [(0, 30, 30)]) σ0 σ) : zpc (fX12_adjusts_55 σ x1 x2) (fun r => (zQ [3, 5, 6, 7, 8, 9, 21, 22, 23, 24, 25] [(0, 31, 33)] [4, 10, 11] [(0, 30, 30)]) σ0 (r)) := by
  unfold fX12_adjusts_55
  exact zpc_bi (fk_fX12_flag h) (fun σ9 v10 hσ9 => zpc_if (fun _ => zpc_if (fun _ => fk_fX12_adjusts_105 hσ9) (fun _ => fk_fX12_adjusts_105 hσ9)) (fun _ => zpc_bi (fk_fX12_flag hσ9) (fun σ11 v12 hσ11 => zpc_if (fun _ => zpc_if (fun _ => fk_fX12_adjusts_104 hσ11) (fun _ => fk_fX12_adjusts_105 hσ11)) (fun _ => fk_fX12_adjusts_104 hσ11))))
theorem fk_fX12_adjusts_46 {σ0 : zSt} {σ : zSt} {x1 : Int32} {x2 : Int32} (h : (zQ [3, 5, 6, 7, 8, 9, 21, 22, 23, 24, 25] [(0, 31, 33)] [4, 10, 11] [(0, 30, 30)]) σ0 σ) : zpc (fX12_adjusts_46 σ x1 x2) (fun r => (zQ [3, 5, 6, 7, 8, 9, 21, 22, 23, 24, 25] [(0, 31, 33)] [4, 10, 11] [(0, 30, 30)]) σ0 (r)) := by
  unfold fX12_adjusts_46
  exact zpc_bv (fun v13 _ => zpc_bu (fk_fX12_put h) (fun σ14 hσ14 => fk_fX12_adjusts_55 hσ14))
theorem fk_fX12_adjusts_30 {σ0 : zSt} {σ : zSt} {x1 : Int32} {x2 : Int32} (h : (zQ [3, 5, 6, 7, 8, 9, 21, 22, 23, 24, 25] [(0, 31, 33)] [4, 10, 11] [(0, 30, 30)]) σ0 σ) : zpc (fX12_adjusts_30 σ x1 x2) (fun r => (zQ [3, 5, 6, 7, 8, 9, 21, 22, 23, 24, 25] [(0, 31, 33)] [4, 10, 11] [(0, 30, 30)]) σ0 (r)) := by
  unfold fX12_adjusts_30
  exact zpc_if (fun _ => fk_fX12_adjusts_46 h) (fun _ => zpc_bi (fk_fX12_flag h) (fun σ15 v16 hσ15 => zpc_if (fun _ => fk_fX12_adjusts_46 hσ15) (fun _ => fk_fX12_adjusts_55 hσ15)))
theorem fk_fX12_adjusts_27 {σ0 : zSt} {σ : zSt} {x1 : Int32} {x2 : Int32} (h : (zQ [3, 5, 6, 7, 8, 9, 21, 22, 23, 24, 25] [(0, 31, 33)] [4, 10, 11] [(0, 30, 30)]) σ0 σ) : zpc (fX12_adjusts_27 σ x1 x2) (fun r => (zQ [3, 5, 6, 7, 8, 9, 21, 22, 23, 24, 25] [(0, 31, 33)] [4, 10, 11] [(0, 30, 30)]) σ0 (r)) := by
  unfold fX12_adjusts_27
  exact zpc_bv (fun v17 _ => fk_fX12_adjusts_30 h)
theorem fk_fX12_adjusts {σ0 : zSt} {σ : zSt} (h : (zQ [3, 5, 6, 7, 8, 9, 21, 22, 23, 24, 25] [(0, 31, 33)] [4, 10, 11] [(0, 30, 30)]) σ0 σ) : zpc (fX12_adjusts σ) (fun r => (zQ [3, 5, 6, 7, 8, 9, 21, 22, 23, 24, 25] [(0, 31, 33)] [4, 10, 11] [(0, 30, 30)]) σ0 (r)) := by
  unfold fX12_adjusts
  exact zpc_ck (zpc_bv (fun v18 _ => zpc_if (fun _ => fk_fX12_adjusts_27 h) (fun _ => zpc_bi (fk_fX12_flag h) (fun σ19 v20 hσ19 => zpc_if (fun _ => fk_fX12_adjusts_27 hσ19) (fun _ => fk_fX12_adjusts_30 hσ19)))))
theorem fk_fX12_singles_28 {σ0 : zSt} {σ : zSt} {s0 : Int32} (h : (zQ [3, 5, 6, 7, 8, 9, 21, 22, 23, 24, 25] [(0, 31, 33)] [4, 10, 11] [(0, 30, 30)]) σ0 σ) : zpc (fX12_singles_28 σ s0) (fun r => (zQ [3, 5, 6, 7, 8, 9, 21, 22, 23, 24, 25] [(0, 31, 33)] [4, 10, 11] [(0, 30, 30)]) σ0 (r.1)) := by
  unfold fX12_singles_28
  exact zpc_some h
theorem fk_fX12_singles_149 {σ0 : zSt} {σ : zSt} {s0 : Int32} (h : (zQ [3, 5, 6, 7, 8, 9, 21, 22, 23, 24, 25] [(0, 31, 33)] [4, 10, 11] [(0, 30, 30)]) σ0 σ) : zpc (fX12_singles_149 σ s0) (fun r => (zQ [3, 5, 6, 7, 8, 9, 21, 22, 23, 24, 25] [(0, 31, 33)] [4, 10, 11] [(0, 30, 30)]) σ0 (r.1)) := by
  unfold fX12_singles_149
  exact zpc_some h
theorem fk_fX12_singles_134 {σ0 : zSt} {σ : zSt} {x1 : Int32} {s0 : Int32} {s1 : Int32} (h : (zQ [3, 5, 6, 7, 8, 9, 21, 22, 23, 24, 25] [(0, 31, 33)] [4, 10, 11] [(0, 30, 30)]) σ0 σ) : zpc (fX12_singles_134 σ x1 s0 s1) (fun r => (zQ [3, 5, 6, 7, 8, 9, 21, 22, 23, 24, 25] [(0, 31, 33)] [4, 10, 11] [(0, 30, 30)]) σ0 (r.1)) := by
  unfold fX12_singles_134
  exact zpc_bu (fk_fX12_put h) (fun σ1 hσ1 => zpc_if (fun _ => fk_fX12_singles_149 hσ1) (fun _ => fk_fX12_singles_149 hσ1))
theorem fk_fX12_singles_119 {σ0 : zSt} {σ : zSt} {x1 : Int32} {x2 : Int32} {s0 : Int32} {s1 : Int32} (h : (zQ [3, 5, 6, 7, 8, 9, 21, 22, 23, 24, 25] [(0, 31, 33)] [4, 10, 11] [(0, 30, 30)]) σ0 σ) : zpc (fX12_singles_119 σ x1 x2 s0 s1) (fun r => (zQ [3, 5, 6, 7, 8, 9, 21, 22, 23, 24, 25] [(0, 31, 33)] [4, 10, 11] [(0, 30, 30)]) σ0 (r.1)) := by
  unfold fX12_singles_119
  exact zpc_bu (fk_fX12_put h) (fun σ2 hσ2 => zpc_if (fun _ => fk_fX12_singles_134 hσ2) (fun _ => fk_fX12_singles_134 hσ2))
theorem fk_fX12_singles_111 {σ0 : zSt} {σ : zSt} {x1 : Int32} {x2 : Int32} {s0 : Int32} {s1 : Int32} {s2 : Int32} (h : (zQ [3, 5, 6, 7, 8, 9, 21, 22, 23, 24, 25] [(0, 31, 33)] [4, 10, 11] [(0, 30, 30)]) σ0 σ) : zpc (fX12_singles_111 σ x1 x2 s0 s1 s2) (fun r => (zQ [3, 5, 6, 7, 8, 9, 21, 22, 23, 24, 25] [(0, 31, 33)] [4, 10, 11] [(0, 30, 30)]) σ0 (r.1)) := by
  unfold fX12_singles_111
  exact zpc_if (fun _ => fk_fX12_singles_119 h) (fun _ => fk_fX12_singles_119 h)
theorem fk_fX12_singles_92 {σ0 : zSt} {σ : zSt} {x1 : Int32} {x2 : Int32} {x3 : Int32} {s0 : Int32} {s1 : Int32} (h : (zQ [3, 5, 6, 7, 8, 9, 21, 22, 23, 24, 25] [(0, 31, 33)] [4, 10, 11] [(0, 30, 30)]) σ0 σ) : zpc (fX12_singles_92 σ x1 x2 x3 s0 s1) (fun r => (zQ [3, 5, 6, 7, 8, 9, 21, 22, 23, 24, 25] [(0, 31, 33)] [4, 10, 11] [(0, 30, 30)]) σ0 (r.1)) := by
  unfold fX12_singles_92
  exact zpc_bu (fk_fX12_put h) (fun σ3 hσ3 => zpc_if (fun _ => fk_fX12_singles_111 hσ3) (fun _ => fk_fX12_singles_111 hσ3))
theorem fk_fX12_singles_84 {σ0 : zSt} {σ : zSt} {x1 : Int32} {x2 : Int32} {x3 : Int32} {s0 : Int32} {s1 : Int32} {s2 : Int32} (h : (zQ [3, 5, 6, 7, 8, 9, 21, 22, 23, 24, 25] [(0, 31, 33)] [4, 10, 11] [(0, 30, 30)]) σ0 σ) : zpc (fX12_singles_84 σ x1 x2 x3 s0 s1 s2) (fun r => (zQ [3, 5, 6, 7, 8, 9, 21, 22, 23, 24, 25] [(0, 31, 33)] [4, 10, 11] [(0, 30, 30)]) σ0 (r.1)) := by
  unfold fX12_singles_84
  exact zpc_if (fun _ => fk_fX12_singles_92 h) (fun _ => fk_fX12_singles_92 h)
theorem fk_fX12_singles_50 {σ0 : zSt} {σ : zSt} {x1 : Int32} {x2 : Int32} {s0 : Int32} {s1 : Int32} (h : (zQ [3, 5, 6, 7, 8, 9, 21, 22, 23, 24, 25] [(0, 31, 33)] [4, 10, 11] [(0, 30, 30)]) σ0 σ) : zpc (fX12_singles_50 σ x1 x2 s0 s1) (fun r => (zQ [3, 5, 6, 7, 8, 9, 21, 22, 23, 24, 25] [(0, 31, 33)] [4, 10, 11] [(0, 30, 30)]) σ0 (r.1)) := by
  unfold fX12_singles_50
  exact zpc_bv (fun v4 _ => zpc_bu (fk_fX12_rTo h) (fun σ5 hσ5 => zpc_bu (fk_fX12_by hσ5) (fun σ6 hσ6 => zpc_if (fun _ => fk_fX12_singles_84 hσ6) (fun _ => fk_fX12_singles_84 hσ6))))
theorem fk_fX12_singles_316 {σ0 : zSt} {σ : zSt} (h : (zQ [3, 5, 6, 7, 8, 9, 21, 22, 23, 24, 25] [(0, 31, 33)] [4, 10, 11] [(0, 30, 30)]) σ0 σ) : zpc (fX12_singles_316 σ) (fun r => (zQ [3, 5, 6, 7, 8, 9, 21, 22, 23, 24, 25] [(0, 31, 33)] [4, 10, 11] [(0, 30, 30)]) σ0 (r.1)) := by
  unfold fX12_singles_316
  exact zpc_some h
theorem fk_fX12_singles_297 {σ0 : zSt} {σ : zSt} {s0 : Int32} {s1 : Int32} (h : (zQ [3, 5, 6, 7, 8, 9, 21, 22, 23, 24, 25] [(0, 31, 33)] [4, 10, 11] [(0, 30, 30)]) σ0 σ) : zpc (fX12_singles_297 σ s0 s1) (fun r => (zQ [3, 5, 6, 7, 8, 9, 21, 22, 23, 24, 25] [(0, 31, 33)] [4, 10, 11] [(0, 30, 30)]) σ0 (r.1)) := by
  unfold fX12_singles_297
  exact zpc_bu (fk_fX12_put h) (fun σ7 hσ7 => zpc_bu (fk_fX12_put hσ7) (fun σ8 hσ8 => zpc_ck (zpc_bu (fk_fX12_xy hσ8) (fun σ9 hσ9 => fk_fX12_singles_316 hσ9))))
theorem fk_fX12_singles_292 {σ0 : zSt} {σ : zSt} {s0 : Int32} (h : (zQ [3, 5, 6, 7, 8, 9, 21, 22, 23, 24, 25] [(0, 31, 33)] [4, 10, 11] [(0, 30, 30)]) σ0 σ) : zpc (fX12_singles_292 σ s0) (fun r => (zQ [3, 5, 6, 7, 8, 9, 21, 22, 23, 24, 25] [(0, 31, 33)] [4, 10, 11] [(0, 30, 30)]) σ0 (r.1)) := by
  unfold fX12_singles_292
  exact fk_fX12_singles_297 h
theorem fk_fX12_singles_273 {σ0 : zSt} {σ : zSt} {x1 : Int32} {s0 : Int32} {s1 : Int32} (h : (zQ [3, 5, 6, 7, 8, 9, 21, 22, 23, 24, 25] [(0, 31, 33)] [4, 10, 11] [(0, 30, 30)]) σ0 σ) : zpc (fX12_singles_273 σ x1 s0 s1) (fun r => (zQ [3, 5, 6, 7, 8, 9, 21, 22, 23, 24, 25] [(0, 31, 33)] [4, 10, 11] [(0, 30, 30)]) σ0 (r.1)) := by
  unfold fX12_singles_273
  exact zpc_bu (fk_fX12_put h) (fun σ10 hσ10 => zpc_if (fun _ => fk_fX12_singles_292 hσ10) (fun _ => zpc_bi (fk_fX12_flag hσ10) (fun σ11 v12 hσ11 => zpc_if (fun _ => fk_fX12_singles_292 hσ11) (fun _ => fk_fX12_singles_297 hσ11))))
theorem fk_fX12_singles_272 {σ0 : zSt} {σ : zSt} {x1 : Int32} {s0 : Int32} (h : (zQ [3, 5, 6, 7, 8, 9, 21, 22, 23, 24, 25] [(0, 31, 33)] [4, 10, 11] [(0, 30, 30)]) σ0 σ) : zpc (fX12_singles_272 σ x1 s0) (fun r => (zQ [3, 5, 6, 7, 8, 9, 21, 22, 23, 24, 25] [(0, 31, 33)] [4, 10, 11] [(0, 30, 30)]) σ0 (r.1)) := by
  unfold fX12_singles_272
  exact fk_fX12_singles_273 h
theorem fk_fX12_singles {σ0 : zSt} {σ : zSt} {x1 : Int32} {x2 : Int32} (h : (zQ [3, 5, 6, 7, 8, 9, 21, 22, 23, 24, 25] [(0, 31, 33)] [4, 10, 11] [(0, 30, 30)]) σ0 σ) : zpc (fX12_singles σ x1 x2) (fun r => (zQ [3, 5, 6, 7, 8, 9, 21, 22, 23, 24, 25] [(0, 31, 33)] [4, 10, 11] [(0, 30, 30)]) σ0 (r.1)) := by
  unfold fX12_singles
  exact zpc_if (fun _ => zpc_bi (fk_fX12_next h) (fun σ28 v29 hσ28 => zpc_bu (fk_fX12_rTo hσ28) (fun σ30 hσ30 => zpc_if (fun _ => fk_fX12_singles_28 hσ30) (fun _ => fk_fX12_singles_28 hσ30)))) (fun _ => zpc_if (fun _ => zpc_if (fun _ => zpc_if (fun _ => zpc_bu (fk_fX12_adjusts h) (fun σ19 hσ19 => fk_fX12_singles_316 hσ19)) (fun _ => zpc_if (fun _ => zpc_ck (zpc_ck (zpc_bs (zQ.wi h rfl) (fun σ15 hσ15 => zpc_bu (fk_fX12_put hσ15) (fun σ16 hσ16 => zpc_bu (fk_fX12_put hσ16) (fun σ17 hσ17 => zpc_ck (zpc_bu (fk_fX12_xy hσ17) (fun σ18 hσ18 => fk_fX12_singles_316 hσ18)))))))) (fun _ => zpc_if (fun _ => zpc_bi (fk_fX12_flag h) (fun σ13 v14 hσ13 => zpc_if (fun _ => fk_fX12_singles_273 hσ13) (fun _ => fk_fX12_singles_272 hσ13))) (fun _ => fk_fX12_singles_272 h)))) (fun _ => zpc_ck (zpc_bi (fk_fX12_turned h) (fun σ20 v21 hσ20 => zpc_ck (zpc_bs (zQ.wi hσ20 rfl) (fun σ22 hσ22 => zpc_ck (zpc_bu (fk_fX12_xy hσ22) (fun σ23 hσ23 => zpc_bu (fk_fX12_put hσ23) (fun σ24 hσ24 => zpc_bu (fk_fX12_put hσ24) (fun σ25 hσ25 => fk_fX12_singles_316 hσ25)))))))))) (fun _ => zpc_bi (fk_fX12_r h) (fun σ26 v27 hσ26 => zpc_if (fun _ => fk_fX12_singles_50 hσ26) (fun _ => fk_fX12_singles_50 hσ26))))
theorem fk_fX12_plain_r1_160 {σ0 : zSt} {σ : zSt} {s0 : Int32} (h : (zQ [3, 5, 6, 7, 8, 9, 21, 22, 23, 24, 25] [(0, 31, 33)] [4, 10, 11] [(0, 30, 30)]) σ0 σ) : zpc (fX12_plain_r1_160 σ s0) (fun r => (zQ [3, 5, 6, 7, 8, 9, 21, 22, 23, 24, 25] [(0, 31, 33)] [4, 10, 11] [(0, 30, 30)]) σ0 (r.1)) := by
  unfold fX12_plain_r1_160
  exact zpc_some h
theorem fk_fX12_plain_r1_139 {σ0 : zSt} {σ : zSt} {s0 : Int32} (h : (zQ [3, 5, 6, 7, 8, 9, 21, 22, 23, 24, 25] [(0, 31, 33)] [4, 10, 11] [(0, 30, 30)]) σ0 σ) : zpc (fX12_plain_r1_139 σ s0) (fun r => (zQ [3, 5, 6, 7, 8, 9, 21, 22, 23, 24, 25] [(0, 31, 33)] [4, 10, 11] [(0, 30, 30)]) σ0 (r.1)) := by
  unfold fX12_plain_r1_139
  exact zpc_some h
theorem fk_fX12_plain_r1_116 {σ0 : zSt} {σ : zSt} {s0 : Int32} (h : (zQ [3, 5, 6, 7, 8, 9, 21, 22, 23, 24, 25] [(0, 31, 33)] [4, 10, 11] [(0, 30, 30)]) σ0 σ) : zpc (fX12_plain_r1_116 σ s0) (fun r => (zQ [3, 5, 6, 7, 8, 9, 21, 22, 23, 24, 25] [(0, 31, 33)] [4, 10, 11] [(0, 30, 30)]) σ0 (r.1)) := by
  unfold fX12_plain_r1_116
  exact zpc_some h
theorem fk_fX12_plain_r1_115 {σ0 : zSt} {σ : zSt} (h : (zQ [3, 5, 6, 7, 8, 9, 21, 22, 23, 24, 25] [(0, 31, 33)] [4, 10, 11] [(0, 30, 30)]) σ0 σ) : zpc (fX12_plain_r1_115 σ) (fun r => (zQ [3, 5, 6, 7, 8, 9, 21, 22, 23, 24, 25] [(0, 31, 33)] [4, 10, 11] [(0, 30, 30)]) σ0 (r.1)) := by
  unfold fX12_plain_r1_115
  exact fk_fX12_plain_r1_116 h
theorem fk_fX12_plain_r1_110 {σ0 : zSt} {σ : zSt} (h : (zQ [3, 5, 6, 7, 8, 9, 21, 22, 23, 24, 25] [(0, 31, 33)] [4, 10, 11] [(0, 30, 30)]) σ0 σ) : zpc (fX12_plain_r1_110 σ) (fun r => (zQ [3, 5, 6, 7, 8, 9, 21, 22, 23, 24, 25] [(0, 31, 33)] [4, 10, 11] [(0, 30, 30)]) σ0 (r.1)) := by
  unfold fX12_plain_r1_110
  exact fk_fX12_plain_r1_116 h
theorem fk_fX12_plain_r1_92 {σ0 : zSt} {σ : zSt} {x1 : Int32} {x2 : Int32} {x3 : Int32} (h : (zQ [3, 5, 6, 7, 8, 9, 21, 22, 23, 24, 25] [(0, 31, 33)] [4, 10, 11] [(0, 30, 30)]) σ0 σ) : zpc (fX12_plain_r1_92 σ x1 x2 x3) (fun r => (zQ [3, 5, 6, 7, 8, 9, 21, 22, 23, 24, 25] [(0, 31, 33)] [4, 10, 11] [(0, 30, 30)]) σ0 (r.1)) := by
  unfold fX12_plain_r1_92
  exact zpc_if (fun _ => fk_fX12_plain_r1_115 h) (fun _ => zpc_if (fun _ => fk_fX12_plain_r1_110 h) (fun _ => zpc_if (fun _ => fk_fX12_plain_r1_110 h) (fun _ => fk_fX12_plain_r1_115 h)))
theorem fk_fX12_plain_r1_64 {σ0 : zSt} {σ : zSt} {s0 : Int32} (h : (zQ [3, 5, 6, 7, 8, 9, 21, 22, 23, 24, 25] [(0, 31, 33)] [4, 10, 11] [(0, 30, 30)]) σ0 σ) : zpc (fX12_plain_r1_64 σ s0) (fun r => (zQ [3, 5, 6, 7, 8, 9, 21, 22, 23, 24, 25] [(0, 31, 33)] [4, 10, 11] [(0, 30, 30)]) σ0 (r.1)) := by
  unfold fX12_plain_r1_64
  exact zpc_some h
theorem fk_fX12_plain_r1 {σ0 : zSt} {σ : zSt} {x1 : Int32} (h : (zQ [3, 5, 6, 7, 8, 9, 21, 22, 23, 24, 25] [(0, 31, 33)] [4, 10, 11] [(0, 30, 30)]) σ0 σ) : zpc (fX12_plain_r1 σ x1) (fun r => (zQ [3, 5, 6, 7, 8, 9, 21, 22, 23, 24, 25] [(0, 31, 33)] [4, 10, 11] [(0, 30, 30)]) σ0 (r.1)) := by
  unfold fX12_plain_r1
  exact zpc_bv (fun v1 _ => zpc_bv (fun v2 _ => zpc_if (fun _ => zpc_if (fun _ => zpc_bi (fk_fX12_singles h) (fun σ3 v4 hσ3 => fk_fX12_plain_r1_64 hσ3)) (fun _ => zpc_bi (fk_fX12_zero h) (fun σ5 v6 hσ5 => fk_fX12_plain_r1_64 hσ5))) (fun _ => zpc_if (fun _ => zpc_if (fun _ => zpc_ck (zpc_bs (zQ.wi h rfl) (fun σ10 hσ10 => fk_fX12_plain_r1_92 hσ10))) (fun _ => zpc_bi (fk_fX12_r h) (fun σ7 v8 hσ7 => zpc_bu (fk_fX12_rTo hσ7) (fun σ9 hσ9 => fk_fX12_plain_r1_92 hσ9)))) (fun _ => zpc_if (fun _ => zpc_bi (fk_fX12_r h) (fun σ11 v12 hσ11 => zpc_bu (fk_fX12_does hσ11) (fun σ13 hσ13 => zpc_if (fun _ => fk_fX12_plain_r1_139 hσ13) (fun _ => fk_fX12_plain_r1_139 hσ13)))) (fun _ => zpc_if (fun _ => zpc_bi (fk_fX12_more3_r1 h) (fun σ14 v15 hσ14 => fk_fX12_plain_r1_160 hσ14)) (fun _ => zpc_bi (fk_fX12_three h) (fun σ16 v17 hσ16 => fk_fX12_plain_r1_160 hσ16)))))))
theorem fk_fX12_prefixed_33 {σ0 : zSt} {σ : zSt} (h : (zQ [3, 5, 6, 7, 8, 9, 21, 22, 23, 24, 25] [(0, 31, 33)] [4, 10, 11] [(0, 30, 30)]) σ0 σ) : zpc (fX12_prefixed_33 σ) (fun r => (zQ [3, 5, 6, 7, 8, 9, 21, 22, 23, 24, 25] [(0, 31, 33)] [4, 10, 11] [(0, 30, 30)]) σ0 (r.1)) := by
  unfold fX12_prefixed_33
  exact zpc_ck (zpc_bs (zQ.wi h rfl) (fun σ1 hσ1 => zpc_some hσ1))
theorem fk_fX12_prefixed_154 {σ0 : zSt} {σ : zSt} {s0 : Int32} (h : (zQ [3, 5, 6, 7, 8, 9, 21, 22, 23, 24, 25] [(0, 31, 33)] [4, 10, 11] [(0, 30, 30)]) σ0 σ) : zpc (fX12_prefixed_154 σ s0) (fun r => (zQ [3, 5, 6, 7, 8, 9, 21, 22, 23, 24, 25] [(0, 31, 33)] [4, 10, 11] [(0, 30, 30)]) σ0 (r.1)) := by
  unfold fX12_prefixed_154
  exact zpc_some h
theorem fk_fX12_prefixed_135 {σ0 : zSt} {σ : zSt} {x4 : Int32} {x5 : Int32} (h : (zQ [3, 5, 6, 7, 8, 9, 21, 22, 23, 24, 25] [(0, 31, 33)] [4, 10, 11] [(0, 30, 30)]) σ0 σ) : zpc (fX12_prefixed_135 σ x4 x5) (fun r => (zQ [3, 5, 6, 7, 8, 9, 21, 22, 23, 24, 25] [(0, 31, 33)] [4, 10, 11] [(0, 30, 30)]) σ0 (r.1)) := by
  unfold fX12_prefixed_135
  exact zpc_if (fun _ => fk_fX12_prefixed_154 h) (fun _ => fk_fX12_prefixed_154 h)
theorem fk_fX12_prefixed_311 {σ0 : zSt} {σ : zSt} {s0 : Int32} {s1 : Int32} (h : (zQ [3, 5, 6, 7, 8, 9, 21, 22, 23, 24, 25] [(0, 31, 33)] [4, 10, 11] [(0, 30, 30)]) σ0 σ) : zpc (fX12_prefixed_311 σ s0 s1) (fun r => (zQ [3, 5, 6, 7, 8, 9, 21, 22, 23, 24, 25] [(0, 31, 33)] [4, 10, 11] [(0, 30, 30)]) σ0 (r.1)) := by
  unfold fX12_prefixed_311
  exact zpc_some h
theorem fk_fX12_prefixed_244 {σ0 : zSt} {σ : zSt} {x1 : Int32} {x3 : Int32} {s0 : Int32} (h : (zQ [3, 5, 6, 7, 8, 9, 21, 22, 23, 24, 25] [(0, 31, 33)] [4, 10, 11] [(0, 30, 30)]) σ0 σ) : zpc (fX12_prefixed_244 σ x1 x3 s0) (fun r => (zQ [3, 5, 6, 7, 8, 9, 21, 22, 23, 24, 25] [(0, 31, 33)] [4, 10, 11] [(0, 30, 30)]) σ0 (r.1)) := by
  unfold fX12_prefixed_244
  exact zpc_if (fun _ => zpc_bs (zQ.wi h rfl) (fun σ10 hσ10 => zpc_bi (fk_fX12_plain_r1 hσ10) (fun σ11 v12 hσ11 => zpc_some hσ11))) (fun _ => zpc_ck (zpc_bi (fk_fX12_next h) (fun σ2 v3 hσ2 => zpc_bi (fk_fX12_signed hσ2) (fun σ4 v5 hσ4 => zpc_ck (zpc_bs (zQ.wi hσ4 rfl) (fun σ6 hσ6 => zpc_ck (zpc_bs (zQ.wi hσ6 rfl) (fun σ7 hσ7 => zpc_bi (fk_fX12_plain_r1 hσ7) (fun σ8 v9 hσ8 => zpc_if (fun _ => fk_fX12_prefixed_311 hσ8) (fun _ => fk_fX12_prefixed_311 hσ8))))))))))
theorem fk_fX12_prefixed_243 {σ0 : zSt} {σ : zSt} {x1 : Int32} {x3 : Int32} (h : (zQ [3, 5, 6, 7, 8, 9, 21, 22, 23, 24, 25] [(0, 31, 33)] [4, 10, 11] [(0, 30, 30)]) σ0 σ) : zpc (fX12_prefixed_243 σ x1 x3) (fun r => (zQ [3, 5, 6, 7, 8, 9, 21, 22, 23, 24, 25] [(0, 31, 33)] [4, 10, 11] [(0, 30, 30)]) σ0 (r.1)) := by
  unfold fX12_prefixed_243
  exact fk_fX12_prefixed_244 h
theorem fk_fX12_prefixed_239 {σ0 : zSt} {σ : zSt} {x1 : Int32} {x3 : Int32} (h : (zQ [3, 5, 6, 7, 8, 9, 21, 22, 23, 24, 25] [(0, 31, 33)] [4, 10, 11] [(0, 30, 30)]) σ0 σ) : zpc (fX12_prefixed_239 σ x1 x3) (fun r => (zQ [3, 5, 6, 7, 8, 9, 21, 22, 23, 24, 25] [(0, 31, 33)] [4, 10, 11] [(0, 30, 30)]) σ0 (r.1)) := by
  unfold fX12_prefixed_239
  exact fk_fX12_prefixed_244 h
theorem fk_fX12_prefixed_226 {σ0 : zSt} {σ : zSt} {x1 : Int32} {x3 : Int32} {x5 : Int32} {x6 : Int32} (h : (zQ [3, 5, 6, 7, 8, 9, 21, 22, 23, 24, 25] [(0, 31, 33)] [4, 10, 11] [(0, 30, 30)]) σ0 σ) : zpc (fX12_prefixed_226 σ x1 x3 x5 x6) (fun r => (zQ [3, 5, 6, 7, 8, 9, 21, 22, 23, 24, 25] [(0, 31, 33)] [4, 10, 11] [(0, 30, 30)]) σ0 (r.1)) := by
  unfold fX12_prefixed_226
  exact zpc_if (fun _ => zpc_if (fun _ => fk_fX12_prefixed_239 h) (fun _ => fk_fX12_prefixed_243 h)) (fun _ => fk_fX12_prefixed_243 h)
theorem fk_fX12_prefixed_220 {σ0 : zSt} {σ : zSt} {x1 : Int32} {x3 : Int32} {x5 : Int32} {x6 : Int32} (h : (zQ [3, 5, 6, 7, 8, 9, 21, 22, 23, 24, 25] [(0, 31, 33)] [4, 10, 11] [(0, 30, 30)]) σ0 σ) : zpc (fX12_prefixed_220 σ x1 x3 x5 x6) (fun r => (zQ [3, 5, 6, 7, 8, 9, 21, 22, 23, 24, 25] [(0, 31, 33)] [4, 10, 11] [(0, 30, 30)]) σ0 (r.1)) := by
  unfold fX12_prefixed_220
  exact zpc_if (fun _ => fk_fX12_prefixed_226 h) (fun _ => fk_fX12_prefixed_239 h)
theorem fk_fX12_prefixed_200 {σ0 : zSt} {σ : zSt} {x1 : Int32} {x3 : Int32} {x4 : Int32} {x5 : Int32} {x6 : Int32} (h : (zQ [3, 5, 6, 7, 8, 9, 21, 22, 23, 24, 25] [(0, 31, 33)] [4, 10, 11] [(0, 30, 30)]) σ0 σ) : zpc (fX12_prefixed_200 σ x1 x3 x4 x5 x6) (fun r => (zQ [3, 5, 6, 7, 8, 9, 21, 22, 23, 24, 25] [(0, 31, 33)] [4, 10, 11] [(0, 30, 30)]) σ0 (r.1)) := by
  unfold fX12_prefixed_200
  exact zpc_if (fun _ => zpc_if (fun _ => fk_fX12_prefixed_220 h) (fun _ => zpc_if (fun _ => fk_fX12_prefixed_220 h) (fun _ => fk_fX12_prefixed_226 h))) (fun _ => fk_fX12_prefixed_226 h)
theorem fk_fX12_prefixed {σ0 : zSt} {σ : zSt} {x1 : Int32} (h : (zQ [3, 5, 6, 7, 8, 9, 21, 22, 23, 24, 25] [(0, 31, 33)] [4, 10, 11] [(0, 30, 30)]) σ0 σ) : zpc (fX12_prefixed σ x1) (fun r => (zQ [3, 5, 6, 7, 8, 9, 21, 22, 23, 24, 25] [(0, 31, 33)] [4, 10, 11] [(0, 30, 30)]) σ0 (r.1)) := by
  unfold fX12_prefixed
  exact zpc_ck (zpc_bi (fk_fX12_read h) (fun σ13 v14 hσ13 => zpc_if (fun _ => fk_fX12_prefixed_33 hσ13) (fun _ => zpc_if (fun _ => fk_fX12_prefixed_33 hσ13) (fun _ => zpc_if (fun _ => fk_fX12_prefixed_33 hσ13) (fun _ => zpc_bi (fk_fX12_fetch hσ13) (fun σ15 v16 hσ15 => zpc_if (fun _ => zpc_ck (zpc_bi (fk_fX12_next hσ15) (fun σ20 v21 hσ20 => zpc_bi (fk_fX12_signed hσ20) (fun σ22 v23 hσ22 => zpc_ck (zpc_bs (zQ.wi hσ22 rfl) (fun σ24 hσ24 => zpc_ck (zpc_bs (zQ.wi hσ24 rfl) (fun σ25 hσ25 => zpc_bi (fk_fX12_next hσ25) (fun σ26 v27 hσ26 => zpc_bi (fk_fX12_turn hσ26) (fun σ28 v29 hσ28 => zpc_if (fun _ => fk_fX12_prefixed_135 hσ28) (fun _ => zpc_if (fun _ => fk_fX12_prefixed_135 hσ28) (fun _ => zpc_ck (zpc_bs (zQ.wi hσ28 rfl) (fun σ30 hσ30 => zpc_bu (fk_fX12_rTo hσ30) (fun σ31 hσ31 => fk_fX12_prefixed_135 hσ31))))))))))))))) (fun _ => zpc_bv (fun v17 _ => zpc_bv (fun v18 _ => zpc_bv (fun v19 _ => zpc_if (fun _ => zpc_if (fun _ => fk_fX12_prefixed_200 hσ15) (fun _ => zpc_if (fun _ => fk_fX12_prefixed_200 hσ15) (fun _ => zpc_if (fun _ => fk_fX12_prefixed_239 hσ15) (fun _ => fk_fX12_prefixed_200 hσ15)))) (fun _ => fk_fX12_prefixed_200 hσ15)))))))))))
theorem fk_fX12_more3_119 {σ0 : zSt} {σ : zSt} {s0 : Int32} (h : (zQ [3, 5, 6, 7, 8, 9, 21, 22, 23, 24, 25] [(0, 31, 33)] [4, 10, 11] [(0, 30, 30)]) σ0 σ) : zpc (fX12_more3_119 σ s0) (fun r => (zQ [3, 5, 6, 7, 8, 9, 21, 22, 23, 24, 25] [(0, 31, 33)] [4, 10, 11] [(0, 30, 30)]) σ0 (r.1)) := by
  unfold fX12_more3_119
  exact zpc_bu (fk_fX12_push h) (fun σ1 hσ1 => zpc_some hσ1)
theorem fk_fX12_more3_200 {σ0 : zSt} {σ : zSt} {s0 : Int32} (h : (zQ [3, 5, 6, 7, 8, 9, 21, 22, 23, 24, 25] [(0, 31, 33)] [4, 10, 11] [(0, 30, 30)]) σ0 σ) : zpc (fX12_more3_200 σ s0) (fun r => (zQ [3, 5, 6, 7, 8, 9, 21, 22, 23, 24, 25] [(0, 31, 33)] [4, 10, 11] [(0, 30, 30)]) σ0 (r.1)) := by
  unfold fX12_more3_200
  exact zpc_some h
theorem fk_fX12_more3_197 {σ0 : zSt} {σ : zSt} {s0 : Int32} (h : (zQ [3, 5, 6, 7, 8, 9, 21, 22, 23, 24, 25] [(0, 31, 33)] [4, 10, 11] [(0, 30, 30)]) σ0 σ) : zpc (fX12_more3_197 σ s0) (fun r => (zQ [3, 5, 6, 7, 8, 9, 21, 22, 23, 24, 25] [(0, 31, 33)] [4, 10, 11] [(0, 30, 30)]) σ0 (r.1)) := by
  unfold fX12_more3_197
  exact zpc_bi (fk_fX12_prefixed h) (fun σ2 v3 hσ2 => fk_fX12_more3_200 hσ2)
theorem fk_fX12_more3 {σ0 : zSt} {σ : zSt} {x1 : Int32} {x2 : Int32} (h : (zQ [3, 5, 6, 7, 8, 9, 21, 22, 23, 24, 25] [(0, 31, 33)] [4, 10, 11] [(0, 30, 30)]) σ0 σ) : zpc (fX12_more3 σ x1 x2) (fun r => (zQ [3, 5, 6, 7, 8, 9, 21, 22, 23, 24, 25] [(0, 31, 33)] [4, 10, 11] [(0, 30, 30)]) σ0 (r.1)) := by
  unfold fX12_more3
  exact zpc_bv (fun v4 _ => zpc_if (fun _ => zpc_bi (fk_fX12_nextWord h) (fun σ22 v23 hσ22 => zpc_ck (zpc_bs (zQ.wi hσ22 rfl) (fun σ24 hσ24 => zpc_bi (fk_fX12_cc hσ24) (fun σ25 v26 hσ25 => zpc_if (fun _ => zpc_some hσ25) (fun _ => zpc_ck (zpc_bu (fk_fX12_push hσ25) (fun σ27 hσ27 => zpc_ck (zpc_ck (zpc_bs (zQ.wi hσ27 rfl) (fun σ28 hσ28 => zpc_some hσ28))))))))))) (fun _ => zpc_if (fun _ => zpc_bi (fk_fX12_next h) (fun σ19 v20 hσ19 => zpc_bu (fk_fX12_does hσ19) (fun σ21 hσ21 => zpc_some hσ21))) (fun _ => zpc_if (fun _ => zpc_bu (fk_fX12_call h) (fun σ18 hσ18 => zpc_some hσ18)) (fun _ => zpc_ck (zpc_if (fun _ => zpc_if (fun _ => zpc_bi (fk_fX12_pair h) (fun σ16 v17 hσ16 => fk_fX12_more3_119 hσ16)) (fun _ => zpc_bi (fk_fX12_rp h) (fun σ14 v15 hσ14 => fk_fX12_more3_119 hσ14))) (fun _ => zpc_if (fun _ => zpc_bi (fk_fX12_nextWord h) (fun σ9 v10 hσ9 => zpc_ck (zpc_bs (zQ.wi hσ9 rfl) (fun σ11 hσ11 => zpc_ck (zpc_bu (fk_fX12_push hσ11) (fun σ12 hσ12 => zpc_ck (zpc_ck (zpc_bs (zQ.wi hσ12 rfl) (fun σ13 hσ13 => zpc_some hσ13))))))))) (fun _ => zpc_if (fun _ => zpc_bi (fk_fX12_fetch h) (fun σ5 v6 hσ5 => zpc_bi (fk_fX12_more hσ5) (fun σ7 v8 hσ7 => fk_fX12_more3_200 hσ7))) (fun _ => zpc_if (fun _ => fk_fX12_more3_197 h) (fun _ => fk_fX12_more3_197 h)))))))))
theorem fk_fX12_plain_160 {σ0 : zSt} {σ : zSt} {s0 : Int32} (h : (zQ [3, 5, 6, 7, 8, 9, 21, 22, 23, 24, 25] [(0, 31, 33)] [4, 10, 11] [(0, 30, 30)]) σ0 σ) : zpc (fX12_plain_160 σ s0) (fun r => (zQ [3, 5, 6, 7, 8, 9, 21, 22, 23, 24, 25] [(0, 31, 33)] [4, 10, 11] [(0, 30, 30)]) σ0 (r.1)) := by
  unfold fX12_plain_160
  exact zpc_some h
theorem fk_fX12_plain_139 {σ0 : zSt} {σ : zSt} {s0 : Int32} (h : (zQ [3, 5, 6, 7, 8, 9, 21, 22, 23, 24, 25] [(0, 31, 33)] [4, 10, 11] [(0, 30, 30)]) σ0 σ) : zpc (fX12_plain_139 σ s0) (fun r => (zQ [3, 5, 6, 7, 8, 9, 21, 22, 23, 24, 25] [(0, 31, 33)] [4, 10, 11] [(0, 30, 30)]) σ0 (r.1)) := by
  unfold fX12_plain_139
  exact zpc_some h
theorem fk_fX12_plain_116 {σ0 : zSt} {σ : zSt} {s0 : Int32} (h : (zQ [3, 5, 6, 7, 8, 9, 21, 22, 23, 24, 25] [(0, 31, 33)] [4, 10, 11] [(0, 30, 30)]) σ0 σ) : zpc (fX12_plain_116 σ s0) (fun r => (zQ [3, 5, 6, 7, 8, 9, 21, 22, 23, 24, 25] [(0, 31, 33)] [4, 10, 11] [(0, 30, 30)]) σ0 (r.1)) := by
  unfold fX12_plain_116
  exact zpc_some h
theorem fk_fX12_plain_115 {σ0 : zSt} {σ : zSt} (h : (zQ [3, 5, 6, 7, 8, 9, 21, 22, 23, 24, 25] [(0, 31, 33)] [4, 10, 11] [(0, 30, 30)]) σ0 σ) : zpc (fX12_plain_115 σ) (fun r => (zQ [3, 5, 6, 7, 8, 9, 21, 22, 23, 24, 25] [(0, 31, 33)] [4, 10, 11] [(0, 30, 30)]) σ0 (r.1)) := by
  unfold fX12_plain_115
  exact fk_fX12_plain_116 h
theorem fk_fX12_plain_110 {σ0 : zSt} {σ : zSt} (h : (zQ [3, 5, 6, 7, 8, 9, 21, 22, 23, 24, 25] [(0, 31, 33)] [4, 10, 11] [(0, 30, 30)]) σ0 σ) : zpc (fX12_plain_110 σ) (fun r => (zQ [3, 5, 6, 7, 8, 9, 21, 22, 23, 24, 25] [(0, 31, 33)] [4, 10, 11] [(0, 30, 30)]) σ0 (r.1)) := by
  unfold fX12_plain_110
  exact fk_fX12_plain_116 h
theorem fk_fX12_plain_92 {σ0 : zSt} {σ : zSt} {x1 : Int32} {x2 : Int32} {x3 : Int32} (h : (zQ [3, 5, 6, 7, 8, 9, 21, 22, 23, 24, 25] [(0, 31, 33)] [4, 10, 11] [(0, 30, 30)]) σ0 σ) : zpc (fX12_plain_92 σ x1 x2 x3) (fun r => (zQ [3, 5, 6, 7, 8, 9, 21, 22, 23, 24, 25] [(0, 31, 33)] [4, 10, 11] [(0, 30, 30)]) σ0 (r.1)) := by
  unfold fX12_plain_92
  exact zpc_if (fun _ => fk_fX12_plain_115 h) (fun _ => zpc_if (fun _ => fk_fX12_plain_110 h) (fun _ => zpc_if (fun _ => fk_fX12_plain_110 h) (fun _ => fk_fX12_plain_115 h)))
theorem fk_fX12_plain_64 {σ0 : zSt} {σ : zSt} {s0 : Int32} (h : (zQ [3, 5, 6, 7, 8, 9, 21, 22, 23, 24, 25] [(0, 31, 33)] [4, 10, 11] [(0, 30, 30)]) σ0 σ) : zpc (fX12_plain_64 σ s0) (fun r => (zQ [3, 5, 6, 7, 8, 9, 21, 22, 23, 24, 25] [(0, 31, 33)] [4, 10, 11] [(0, 30, 30)]) σ0 (r.1)) := by
  unfold fX12_plain_64
  exact zpc_some h
theorem fk_fX12_plain {σ0 : zSt} {σ : zSt} {x1 : Int32} (h : (zQ [3, 5, 6, 7, 8, 9, 21, 22, 23, 24, 25] [(0, 31, 33)] [4, 10, 11] [(0, 30, 30)]) σ0 σ) : zpc (fX12_plain σ x1) (fun r => (zQ [3, 5, 6, 7, 8, 9, 21, 22, 23, 24, 25] [(0, 31, 33)] [4, 10, 11] [(0, 30, 30)]) σ0 (r.1)) := by
  unfold fX12_plain
  exact zpc_bv (fun v1 _ => zpc_bv (fun v2 _ => zpc_if (fun _ => zpc_if (fun _ => zpc_bi (fk_fX12_singles h) (fun σ3 v4 hσ3 => fk_fX12_plain_64 hσ3)) (fun _ => zpc_bi (fk_fX12_zero h) (fun σ5 v6 hσ5 => fk_fX12_plain_64 hσ5))) (fun _ => zpc_if (fun _ => zpc_if (fun _ => zpc_ck (zpc_bs (zQ.wi h rfl) (fun σ10 hσ10 => fk_fX12_plain_92 hσ10))) (fun _ => zpc_bi (fk_fX12_r h) (fun σ7 v8 hσ7 => zpc_bu (fk_fX12_rTo hσ7) (fun σ9 hσ9 => fk_fX12_plain_92 hσ9)))) (fun _ => zpc_if (fun _ => zpc_bi (fk_fX12_r h) (fun σ11 v12 hσ11 => zpc_bu (fk_fX12_does hσ11) (fun σ13 hσ13 => zpc_if (fun _ => fk_fX12_plain_139 hσ13) (fun _ => fk_fX12_plain_139 hσ13)))) (fun _ => zpc_if (fun _ => zpc_bi (fk_fX12_more3 h) (fun σ14 v15 hσ14 => fk_fX12_plain_160 hσ14)) (fun _ => zpc_bi (fk_fX12_three h) (fun σ16 v17 hσ16 => fk_fX12_plain_160 hσ16)))))))
theorem fk_fX12_instruction {σ0 : zSt} {σ : zSt} (h : (zQ [3, 5, 6, 7, 8, 9, 21, 22, 23, 24, 25] [(0, 31, 33)] [4, 10, 11] [(0, 30, 30)]) σ0 σ) : zpc (fX12_instruction σ) (fun r => (zQ [3, 5, 6, 7, 8, 9, 21, 22, 23, 24, 25] [(0, 31, 33)] [4, 10, 11] [(0, 30, 30)]) σ0 (r.1)) := by
  unfold fX12_instruction
  exact zpc_bs (zQ.wi h rfl) (fun σ1 hσ1 => zpc_ck (zpc_bs (zQ.wi hσ1 rfl) (fun σ2 hσ2 => zpc_bi (fk_fX12_fetch hσ2) (fun σ3 v4 hσ3 => zpc_bi (fk_fX12_plain hσ3) (fun σ5 v6 hσ5 => zpc_some hσ5)))))
theorem fk_fX12_answers {σ0 : zSt} {σ : zSt} (h : (zQ [3, 5, 6, 7, 8, 9, 21, 22, 23, 24, 25] [(0, 31, 33)] [4, 10, 11] [(0, 30, 30)]) σ0 σ) : zpc (fX12_answers σ) (fun r => (zQ [3, 5, 6, 7, 8, 9, 21, 22, 23, 24, 25] [(0, 31, 33)] [4, 10, 11] [(0, 30, 30)]) σ0 (r)) := by
  unfold fX12_answers
  exact zpc_bu (fk_fX12_grows h) (fun σ1 hσ1 => zpc_ck (zpc_bs (zQ.wi hσ1 rfl) (fun σ2 hσ2 => zpc_some hσ2)))
theorem fk_fX12_reg {σ0 : zSt} {σ : zSt} {x1 : Int32} (h : (zQ [3, 5, 6, 7, 8, 9, 21, 22, 23, 24, 25] [(0, 31, 33)] [4, 10, 11] [(0, 30, 30)]) σ0 σ) : zpc (fX12_reg σ x1) (fun r => (zQ [3, 5, 6, 7, 8, 9, 21, 22, 23, 24, 25] [(0, 31, 33)] [4, 10, 11] [(0, 30, 30)]) σ0 (r.1)) := by
  unfold fX12_reg
  exact zpc_ck (zpc_some h)
theorem fk_fX12_tileDot_6_body {σ0 : zSt} {k6 : zSt → Int32 → Int32 → Int32 → Int32 → Int32 → Option (zSt × Int32)} (hk6 : ∀ (y0 : zSt) (y1 : Int32) (y2 : Int32) (y3 : Int32) (y4 : Int32) (y5 : Int32), (zQ [3, 5, 6, 7, 8, 9, 21, 22, 23, 24, 25] [(0, 31, 33)] [4, 10, 11] [(0, 30, 30)]) σ0 y0 → zpc (k6 y0 y1 y2 y3 y4 y5) (fun r => (zQ [3, 5, 6, 7, 8, 9, 21, 22, 23, 24, 25] [(0, 31, 33)] [4, 10, 11] [(0, 30, 30)]) σ0 (r.1))) {σ : zSt} {x1 : Int32} {x2 : Int32} {x3 : Int32} {x4 : Int32} {x5 : Int32} (h : (zQ [3, 5, 6, 7, 8, 9, 21, 22, 23, 24, 25] [(0, 31, 33)] [4, 10, 11] [(0, 30, 30)]) σ0 σ) : zpc (fX12_tileDot_6_body k6 σ x1 x2 x3 x4 x5) (fun r => (zQ [3, 5, 6, 7, 8, 9, 21, 22, 23, 24, 25] [(0, 31, 33)] [4, 10, 11] [(0, 30, 30)]) σ0 (r.1)) := by
  unfold fX12_tileDot_6_body
  exact zpc_if (fun _ => zpc_some h) (fun _ => zpc_bi (fk_fX12_video8 h) (fun σ1 v2 hσ1 => zpc_bv (fun v3 _ => zpc_bv (fun v4 _ => hk6 _ _ _ _ _ _ hσ1))))
theorem fk_fX12_tileDot_6 {σ0 : zSt} : ∀ (n : Nat) (y0 : zSt) (y1 : Int32) (y2 : Int32) (y3 : Int32) (y4 : Int32) (y5 : Int32), (zQ [3, 5, 6, 7, 8, 9, 21, 22, 23, 24, 25] [(0, 31, 33)] [4, 10, 11] [(0, 30, 30)]) σ0 y0 → zpc (fX12_tileDot_6 n y0 y1 y2 y3 y4 y5) (fun r => (zQ [3, 5, 6, 7, 8, 9, 21, 22, 23, 24, 25] [(0, 31, 33)] [4, 10, 11] [(0, 30, 30)]) σ0 (r.1)) := by
  intro n
  induction n with
  | zero => intro y0 y1 y2 y3 y4 y5 h; exact zpc_none
  | succ n ih => intro y0 y1 y2 y3 y4 y5 h; exact fk_fX12_tileDot_6_body ih h
theorem fk_fX12_tileDot {σ0 : zSt} {σ : zSt} {x1 : Int32} {x2 : Int32} {x3 : Int32} (h : (zQ [3, 5, 6, 7, 8, 9, 21, 22, 23, 24, 25] [(0, 31, 33)] [4, 10, 11] [(0, 30, 30)]) σ0 σ) : zpc (fX12_tileDot σ x1 x2 x3) (fun r => (zQ [3, 5, 6, 7, 8, 9, 21, 22, 23, 24, 25] [(0, 31, 33)] [4, 10, 11] [(0, 30, 30)]) σ0 (r.1)) := by
  unfold fX12_tileDot
  exact fk_fX12_tileDot_6 _ _ _ _ _ _ _ h
theorem fk_fX12_tile_302 {σ0 : zSt} {σ : zSt} {s0 : Int32} {s1 : Int32} (h : (zQ [3, 5, 6, 7, 8, 9, 21, 22, 23, 24, 25] [(0, 31, 33)] [4, 10, 11] [(0, 30, 30)]) σ0 σ) : zpc (fX12_tile_302 σ s0 s1) (fun r => (zQ [3, 5, 6, 7, 8, 9, 21, 22, 23, 24, 25] [(0, 31, 33)] [4, 10, 11] [(0, 30, 30)]) σ0 (r)) := by
  unfold fX12_tile_302
  exact zpc_ck (zpc_bs (zQ.wi h rfl) (fun σ1 hσ1 => zpc_some hσ1))
theorem fk_fX12_tile_301 {σ0 : zSt} {σ : zSt} {s0 : Int32} (h : (zQ [3, 5, 6, 7, 8, 9, 21, 22, 23, 24, 25] [(0, 31, 33)] [4, 10, 11] [(0, 30, 30)]) σ0 σ) : zpc (fX12_tile_301 σ s0) (fun r => (zQ [3, 5, 6, 7, 8, 9, 21, 22, 23, 24, 25] [(0, 31, 33)] [4, 10, 11] [(0, 30, 30)]) σ0 (r)) := by
  unfold fX12_tile_301
  exact fk_fX12_tile_302 h
theorem fk_fX12_tile_276 {σ0 : zSt} {σ : zSt} {x2 : Int32} {x9 : Int32} {x12 : Int32} {s0 : Int32} {s1 : Int32} {s2 : Int32} (h : (zQ [3, 5, 6, 7, 8, 9, 21, 22, 23, 24, 25] [(0, 31, 33)] [4, 10, 11] [(0, 30, 30)]) σ0 σ) : zpc (fX12_tile_276 σ x2 x9 x12 s0 s1 s2) (fun r => (zQ [3, 5, 6, 7, 8, 9, 21, 22, 23, 24, 25] [(0, 31, 33)] [4, 10, 11] [(0, 30, 30)]) σ0 (r)) := by
  unfold fX12_tile_276
  exact zpc_ck (zpc_bs (zQ.wi h rfl) (fun σ2 hσ2 => zpc_if (fun _ => fk_fX12_tile_301 hσ2) (fun _ => zpc_if (fun _ => fk_fX12_tile_301 hσ2) (fun _ => fk_fX12_tile_302 hσ2))))
theorem fk_fX12_tile_236 {σ0 : zSt} {σ : zSt} {x2 : Int32} {x9 : Int32} {x10 : Int32} {s0 : Int32} (h : (zQ [3, 5, 6, 7, 8, 9, 21, 22, 23, 24, 25] [(0, 31, 33)] [4, 10, 11] [(0, 30, 30)]) σ0 σ) : zpc (fX12_tile_236 σ x2 x9 x10 s0) (fun r => (zQ [3, 5, 6, 7, 8, 9, 21, 22, 23, 24, 25] [(0, 31, 33)] [4, 10, 11] [(0, 30, 30)]) σ0 (r)) := by
  unfold fX12_tile_236
  exact zpc_bi (fk_fX12_tileDot h) (fun σ3 v4 hσ3 => zpc_if (fun _ => fk_fX12_tile_276 hσ3) (fun _ => fk_fX12_tile_276 hσ3))
theorem fk_fX12_tile_209 {σ0 : zSt} {σ : zSt} {x2 : Int32} {x7 : Int32} {x9 : Int32} {s0 : Int32} (h : (zQ [3, 5, 6, 7, 8, 9, 21, 22, 23, 24, 25] [(0, 31, 33)] [4, 10, 11] [(0, 30, 30)]) σ0 σ) : zpc (fX12_tile_209 σ x2 x7 x9 s0) (fun r => (zQ [3, 5, 6, 7, 8, 9, 21, 22, 23, 24, 25] [(0, 31, 33)] [4, 10, 11] [(0, 30, 30)]) σ0 (r)) := by
  unfold fX12_tile_209
  exact zpc_if (fun _ => zpc_ck (fk_fX12_tile_236 h)) (fun _ => zpc_ck (fk_fX12_tile_236 h))
theorem fk_fX12_tile_141 {σ0 : zSt} {σ : zSt} {x2 : Int32} {x4 : Int32} {x6 : Int32} {s0 : Int32} (h : (zQ [3, 5, 6, 7, 8, 9, 21, 22, 23, 24, 25] [(0, 31, 33)] [4, 10, 11] [(0, 30, 30)]) σ0 σ) : zpc (fX12_tile_141 σ x2 x4 x6 s0) (fun r => (zQ [3, 5, 6, 7, 8, 9, 21, 22, 23, 24, 25] [(0, 31, 33)] [4, 10, 11] [(0, 30, 30)]) σ0 (r)) := by
  unfold fX12_tile_141
  exact zpc_ck (zpc_ck (zpc_bv (fun v5 _ => zpc_bi (fk_fX12_video8 h) (fun σ6 v7 hσ6 => zpc_bi (fk_fX12_video8 hσ6) (fun σ8 v9 hσ8 => zpc_bv (fun v10 _ => zpc_if (fun _ => zpc_ck (fk_fX12_tile_209 hσ8)) (fun _ => zpc_ck (fk_fX12_tile_209 hσ8))))))))
theorem fk_fX12_tile_140 {σ0 : zSt} {σ : zSt} {x2 : Int32} {x4 : Int32} {x6 : Int32} {s0 : Int32} {s1 : Int32} (h : (zQ [3, 5, 6, 7, 8, 9, 21, 22, 23, 24, 25] [(0, 31, 33)] [4, 10, 11] [(0, 30, 30)]) σ0 σ) : zpc (fX12_tile_140 σ x2 x4 x6 s0 s1) (fun r => (zQ [3, 5, 6, 7, 8, 9, 21, 22, 23, 24, 25] [(0, 31, 33)] [4, 10, 11] [(0, 30, 30)]) σ0 (r)) := by
  unfold fX12_tile_140
  exact zpc_ck (fk_fX12_tile_141 h)
theorem fk_fX12_tile_118 {σ0 : zSt} {σ : zSt} {x1 : Int32} {x2 : Int32} {x3 : Int32} {x4 : Int32} {x6 : Int32} (h : (zQ [3, 5, 6, 7, 8, 9, 21, 22, 23, 24, 25] [(0, 31, 33)] [4, 10, 11] [(0, 30, 30)]) σ0 σ) : zpc (fX12_tile_118 σ x1 x2 x3 x4 x6) (fun r => (zQ [3, 5, 6, 7, 8, 9, 21, 22, 23, 24, 25] [(0, 31, 33)] [4, 10, 11] [(0, 30, 30)]) σ0 (r)) := by
  unfold fX12_tile_118
  exact zpc_ck (zpc_if (fun _ => fk_fX12_tile_140 h) (fun _ => fk_fX12_tile_140 h))
theorem fk_fX12_tile_84 {σ0 : zSt} {σ : zSt} {x1 : Int32} {x2 : Int32} {x3 : Int32} {x4 : Int32} {s0 : Int32} (h : (zQ [3, 5, 6, 7, 8, 9, 21, 22, 23, 24, 25] [(0, 31, 33)] [4, 10, 11] [(0, 30, 30)]) σ0 σ) : zpc (fX12_tile_84 σ x1 x2 x3 x4 s0) (fun r => (zQ [3, 5, 6, 7, 8, 9, 21, 22, 23, 24, 25] [(0, 31, 33)] [4, 10, 11] [(0, 30, 30)]) σ0 (r)) := by
  unfold fX12_tile_84
  exact zpc_bv (fun v11 _ => zpc_if (fun _ => fk_fX12_tile_118 h) (fun _ => zpc_bi (fk_fX12_bit h) (fun σ12 v13 hσ12 => zpc_if (fun _ => fk_fX12_tile_141 hσ12) (fun _ => fk_fX12_tile_118 hσ12))))
theorem fk_fX12_tile_78 {σ0 : zSt} {σ : zSt} {x1 : Int32} {x2 : Int32} {x3 : Int32} {x4 : Int32} (h : (zQ [3, 5, 6, 7, 8, 9, 21, 22, 23, 24, 25] [(0, 31, 33)] [4, 10, 11] [(0, 30, 30)]) σ0 σ) : zpc (fX12_tile_78 σ x1 x2 x3 x4) (fun r => (zQ [3, 5, 6, 7, 8, 9, 21, 22, 23, 24, 25] [(0, 31, 33)] [4, 10, 11] [(0, 30, 30)]) σ0 (r)) := by
  unfold fX12_tile_78
  exact zpc_bi (fk_fX12_reg h) (fun σ14 v15 hσ14 => fk_fX12_tile_84 hσ14)
theorem fk_fX12_tile_55 {σ0 : zSt} {σ : zSt} {x1 : Int32} {x2 : Int32} {x3 : Int32} {s0 : Int32} (h : (zQ [3, 5, 6, 7, 8, 9, 21, 22, 23, 24, 25] [(0, 31, 33)] [4, 10, 11] [(0, 30, 30)]) σ0 σ) : zpc (fX12_tile_55 σ x1 x2 x3 s0) (fun r => (zQ [3, 5, 6, 7, 8, 9, 21, 22, 23, 24, 25] [(0, 31, 33)] [4, 10, 11] [(0, 30, 30)]) σ0 (r)) := by
  unfold fX12_tile_55
  exact zpc_if (fun _ => fk_fX12_tile_78 h) (fun _ => zpc_bi (fk_fX12_bit h) (fun σ16 v17 hσ16 => zpc_if (fun _ => fk_fX12_tile_84 hσ16) (fun _ => fk_fX12_tile_78 hσ16)))
theorem fk_fX12_tile_15 {σ0 : zSt} {σ : zSt} {x1 : Int32} {x2 : Int32} {s0 : Int32} (h : (zQ [3, 5, 6, 7, 8, 9, 21, 22, 23, 24, 25] [(0, 31, 33)] [4, 10, 11] [(0, 30, 30)]) σ0 σ) : zpc (fX12_tile_15 σ x1 x2 s0) (fun r => (zQ [3, 5, 6, 7, 8, 9, 21, 22, 23, 24, 25] [(0, 31, 33)] [4, 10, 11] [(0, 30, 30)]) σ0 (r)) := by
  unfold fX12_tile_15
  exact zpc_if (fun _ => zpc_bi (fk_fX12_reg h) (fun σ18 v19 hσ18 => zpc_ck (zpc_ck (fk_fX12_tile_55 hσ18)))) (fun _ => zpc_bi (fk_fX12_reg h) (fun σ20 v21 hσ20 => zpc_ck (fk_fX12_tile_55 hσ20)))
theorem fk_fX12_tile {σ0 : zSt} {σ : zSt} {x1 : Int32} {x2 : Int32} (h : (zQ [3, 5, 6, 7, 8, 9, 21, 22, 23, 24, 25] [(0, 31, 33)] [4, 10, 11] [(0, 30, 30)]) σ0 σ) : zpc (fX12_tile σ x1 x2) (fun r => (zQ [3, 5, 6, 7, 8, 9, 21, 22, 23, 24, 25] [(0, 31, 33)] [4, 10, 11] [(0, 30, 30)]) σ0 (r)) := by
  unfold fX12_tile
  exact zpc_bi (fk_fX12_height h) (fun σ22 v23 hσ22 => zpc_if (fun _ => fk_fX12_tile_15 hσ22) (fun _ => fk_fX12_tile_15 hσ22))
theorem fk_fX12_sprites_349 {σ0 : zSt} {k73 : zSt → Int32 → Int32 → Int32 → Int32 → Int32 → Int32 → Int32 → Option (zSt)} (hk73 : ∀ (y0 : zSt) (y1 : Int32) (y2 : Int32) (y3 : Int32) (y4 : Int32) (y5 : Int32) (y6 : Int32) (y7 : Int32), (zQ [3, 5, 6, 7, 8, 9, 21, 22, 23, 24, 25] [(0, 31, 33)] [4, 10, 11] [(0, 30, 30)]) σ0 y0 → zpc (k73 y0 y1 y2 y3 y4 y5 y6 y7) (fun r => (zQ [3, 5, 6, 7, 8, 9, 21, 22, 23, 24, 25] [(0, 31, 33)] [4, 10, 11] [(0, 30, 30)]) σ0 (r))) {σ : zSt} {x1 : Int32} {x2 : Int32} {x3 : Int32} {x4 : Int32} {x5 : Int32} {x6 : Int32} {x7 : Int32} (h : (zQ [3, 5, 6, 7, 8, 9, 21, 22, 23, 24, 25] [(0, 31, 33)] [4, 10, 11] [(0, 30, 30)]) σ0 σ) : zpc (fX12_sprites_349 k73 σ x1 x2 x3 x4 x5 x6 x7) (fun r => (zQ [3, 5, 6, 7, 8, 9, 21, 22, 23, 24, 25] [(0, 31, 33)] [4, 10, 11] [(0, 30, 30)]) σ0 (r)) := by
  unfold fX12_sprites_349
  exact zpc_bv (fun v1 _ => hk73 _ _ _ _ _ _ _ _ h)
theorem fk_fX12_sprites_343 {σ0 : zSt} {k73 : zSt → Int32 → Int32 → Int32 → Int32 → Int32 → Int32 → Int32 → Option (zSt)} (hk73 : ∀ (y0 : zSt) (y1 : Int32) (y2 : Int32) (y3 : Int32) (y4 : Int32) (y5 : Int32) (y6 : Int32) (y7 : Int32), (zQ [3, 5, 6, 7, 8, 9, 21, 22, 23, 24, 25] [(0, 31, 33)] [4, 10, 11] [(0, 30, 30)]) σ0 y0 → zpc (k73 y0 y1 y2 y3 y4 y5 y6 y7) (fun r => (zQ [3, 5, 6, 7, 8, 9, 21, 22, 23, 24, 25] [(0, 31, 33)] [4, 10, 11] [(0, 30, 30)]) σ0 (r))) {k250 : zSt → Int32 → Int32 → Int32 → Int32 → Int32 → Int32 → Int32 → Int32 → Int32 → Int32 → Int32 → Option (zSt)} (hk250 : ∀ (y0 : zSt) (y1 : Int32) (y2 : Int32) (y3 : Int32) (y4 : Int32) (y5 : Int32) (y6 : Int32) (y7 : Int32) (y8 : Int32) (y9 : Int32) (y10 : Int32) (y11 : Int32), (zQ [3, 5, 6, 7, 8, 9, 21, 22, 23, 24, 25] [(0, 31, 33)] [4, 10, 11] [(0, 30, 30)]) σ0 y0 → zpc (k250 y0 y1 y2 y3 y4 y5 y6 y7 y8 y9 y10 y11) (fun r => (zQ [3, 5, 6, 7, 8, 9, 21, 22, 23, 24, 25] [(0, 31, 33)] [4, 10, 11] [(0, 30, 30)]) σ0 (r))) {σ : zSt} {x1 : Int32} {x2 : Int32} {x3 : Int32} {x4 : Int32} {x5 : Int32} {x6 : Int32} {x7 : Int32} {x9 : Int32} {x10 : Int32} {x11 : Int32} {x12 : Int32} (h : (zQ [3, 5, 6, 7, 8, 9, 21, 22, 23, 24, 25] [(0, 31, 33)] [4, 10, 11] [(0, 30, 30)]) σ0 σ) : zpc (fX12_sprites_343 k73 k250 σ x1 x2 x3 x4 x5 x6 x7 x9 x10 x11 x12) (fun r => (zQ [3, 5, 6, 7, 8, 9, 21, 22, 23, 24, 25] [(0, 31, 33)] [4, 10, 11] [(0, 30, 30)]) σ0 (r)) := by
  unfold fX12_sprites_343
  exact zpc_bv (fun v2 _ => hk250 _ _ _ _ _ _ _ _ _ _ _ _ h)
theorem fk_fX12_sprites_250_body {σ0 : zSt} {k73 : zSt → Int32 → Int32 → Int32 → Int32 → Int32 → Int32 → Int32 → Option (zSt)} (hk73 : ∀ (y0 : zSt) (y1 : Int32) (y2 : Int32) (y3 : Int32) (y4 : Int32) (y5 : Int32) (y6 : Int32) (y7 : Int32), (zQ [3, 5, 6, 7, 8, 9, 21, 22, 23, 24, 25] [(0, 31, 33)] [4, 10, 11] [(0, 30, 30)]) σ0 y0 → zpc (k73 y0 y1 y2 y3 y4 y5 y6 y7) (fun r => (zQ [3, 5, 6, 7, 8, 9, 21, 22, 23, 24, 25] [(0, 31, 33)] [4, 10, 11] [(0, 30, 30)]) σ0 (r))) {k250 : zSt → Int32 → Int32 → Int32 → Int32 → Int32 → Int32 → Int32 → Int32 → Int32 → Int32 → Int32 → Option (zSt)} (hk250 : ∀ (y0 : zSt) (y1 : Int32) (y2 : Int32) (y3 : Int32) (y4 : Int32) (y5 : Int32) (y6 : Int32) (y7 : Int32) (y8 : Int32) (y9 : Int32) (y10 : Int32) (y11 : Int32), (zQ [3, 5, 6, 7, 8, 9, 21, 22, 23, 24, 25] [(0, 31, 33)] [4, 10, 11] [(0, 30, 30)]) σ0 y0 → zpc (k250 y0 y1 y2 y3 y4 y5 y6 y7 y8 y9 y10 y11) (fun r => (zQ [3, 5, 6, 7, 8, 9, 21, 22, 23, 24, 25] [(0, 31, 33)] [4, 10, 11] [(0, 30, 30)]) σ0 (r))) {σ : zSt} {x1 : Int32} {x2 : Int32} {x3 : Int32} {x4 : Int32} {x5 : Int32} {x6 : Int32} {x7 : Int32} {x9 : Int32} {x10 : Int32} {x11 : Int32} {x12 : Int32} (h : (zQ [3, 5, 6, 7, 8, 9, 21, 22, 23, 24, 25] [(0, 31, 33)] [4, 10, 11] [(0, 30, 30)]) σ0 σ) : zpc (fX12_sprites_250_body k73 k250 σ x1 x2 x3 x4 x5 x6 x7 x9 x10 x11 x12) (fun r => (zQ [3, 5, 6, 7, 8, 9, 21, 22, 23, 24, 25] [(0, 31, 33)] [4, 10, 11] [(0, 30, 30)]) σ0 (r)) := by
  unfold fX12_sprites_250_body
  exact zpc_if (fun _ => fk_fX12_sprites_349 hk73 h) (fun _ => zpc_ck (zpc_ck (zpc_ck (zpc_bi (fk_fX12_tileDot h) (fun σ3 v4 hσ3 => zpc_bv (fun v5 _ => zpc_if (fun _ => fk_fX12_sprites_343 hk73 hk250 hσ3) (fun _ => zpc_if (fun _ => fk_fX12_sprites_343 hk73 hk250 hσ3) (fun _ => zpc_if (fun _ => zpc_ck (zpc_if (fun _ => zpc_ck (zpc_bs (zQ.wi hσ3 rfl) (fun σ6 hσ6 => fk_fX12_sprites_343 hk73 hk250 hσ6))) (fun _ => zpc_ck (zpc_ck (zpc_bs (zQ.wi hσ3 rfl) (fun σ7 hσ7 => fk_fX12_sprites_343 hk73 hk250 hσ7)))))) (fun _ => fk_fX12_sprites_343 hk73 hk250 hσ3)))))))))
theorem fk_fX12_sprites_250 {σ0 : zSt} {k73 : zSt → Int32 → Int32 → Int32 → Int32 → Int32 → Int32 → Int32 → Option (zSt)} (hk73 : ∀ (y0 : zSt) (y1 : Int32) (y2 : Int32) (y3 : Int32) (y4 : Int32) (y5 : Int32) (y6 : Int32) (y7 : Int32), (zQ [3, 5, 6, 7, 8, 9, 21, 22, 23, 24, 25] [(0, 31, 33)] [4, 10, 11] [(0, 30, 30)]) σ0 y0 → zpc (k73 y0 y1 y2 y3 y4 y5 y6 y7) (fun r => (zQ [3, 5, 6, 7, 8, 9, 21, 22, 23, 24, 25] [(0, 31, 33)] [4, 10, 11] [(0, 30, 30)]) σ0 (r))) : ∀ (n : Nat) (y0 : zSt) (y1 : Int32) (y2 : Int32) (y3 : Int32) (y4 : Int32) (y5 : Int32) (y6 : Int32) (y7 : Int32) (y8 : Int32) (y9 : Int32) (y10 : Int32) (y11 : Int32), (zQ [3, 5, 6, 7, 8, 9, 21, 22, 23, 24, 25] [(0, 31, 33)] [4, 10, 11] [(0, 30, 30)]) σ0 y0 → zpc (fX12_sprites_250 k73 n y0 y1 y2 y3 y4 y5 y6 y7 y8 y9 y10 y11) (fun r => (zQ [3, 5, 6, 7, 8, 9, 21, 22, 23, 24, 25] [(0, 31, 33)] [4, 10, 11] [(0, 30, 30)]) σ0 (r)) := by
  intro n
  induction n with
  | zero => intro y0 y1 y2 y3 y4 y5 y6 y7 y8 y9 y10 y11 h; exact zpc_none
  | succ n ih => intro y0 y1 y2 y3 y4 y5 y6 y7 y8 y9 y10 y11 h; exact fk_fX12_sprites_250_body hk73 ih h
theorem fk_fX12_sprites_244 {σ0 : zSt} {k73 : zSt → Int32 → Int32 → Int32 → Int32 → Int32 → Int32 → Int32 → Option (zSt)} (hk73 : ∀ (y0 : zSt) (y1 : Int32) (y2 : Int32) (y3 : Int32) (y4 : Int32) (y5 : Int32) (y6 : Int32) (y7 : Int32), (zQ [3, 5, 6, 7, 8, 9, 21, 22, 23, 24, 25] [(0, 31, 33)] [4, 10, 11] [(0, 30, 30)]) σ0 y0 → zpc (k73 y0 y1 y2 y3 y4 y5 y6 y7) (fun r => (zQ [3, 5, 6, 7, 8, 9, 21, 22, 23, 24, 25] [(0, 31, 33)] [4, 10, 11] [(0, 30, 30)]) σ0 (r))) {σ : zSt} {x1 : Int32} {x2 : Int32} {x3 : Int32} {x4 : Int32} {x5 : Int32} {x6 : Int32} {x7 : Int32} {x9 : Int32} {x10 : Int32} {s0 : Int32} {s1 : Int32} (h : (zQ [3, 5, 6, 7, 8, 9, 21, 22, 23, 24, 25] [(0, 31, 33)] [4, 10, 11] [(0, 30, 30)]) σ0 σ) : zpc (fX12_sprites_244 k73 σ x1 x2 x3 x4 x5 x6 x7 x9 x10 s0 s1) (fun r => (zQ [3, 5, 6, 7, 8, 9, 21, 22, 23, 24, 25] [(0, 31, 33)] [4, 10, 11] [(0, 30, 30)]) σ0 (r)) := by
  unfold fX12_sprites_244
  exact zpc_bv (fun v8 _ => fk_fX12_sprites_250 hk73 _ _ _ _ _ _ _ _ _ _ _ _ _ h)
theorem fk_fX12_sprites_212 {σ0 : zSt} {k73 : zSt → Int32 → Int32 → Int32 → Int32 → Int32 → Int32 → Int32 → Option (zSt)} (hk73 : ∀ (y0 : zSt) (y1 : Int32) (y2 : Int32) (y3 : Int32) (y4 : Int32) (y5 : Int32) (y6 : Int32) (y7 : Int32), (zQ [3, 5, 6, 7, 8, 9, 21, 22, 23, 24, 25] [(0, 31, 33)] [4, 10, 11] [(0, 30, 30)]) σ0 y0 → zpc (k73 y0 y1 y2 y3 y4 y5 y6 y7) (fun r => (zQ [3, 5, 6, 7, 8, 9, 21, 22, 23, 24, 25] [(0, 31, 33)] [4, 10, 11] [(0, 30, 30)]) σ0 (r))) {σ : zSt} {x1 : Int32} {x2 : Int32} {x3 : Int32} {x4 : Int32} {x5 : Int32} {x6 : Int32} {x7 : Int32} {x9 : Int32} {s0 : Int32} (h : (zQ [3, 5, 6, 7, 8, 9, 21, 22, 23, 24, 25] [(0, 31, 33)] [4, 10, 11] [(0, 30, 30)]) σ0 σ) : zpc (fX12_sprites_212 k73 σ x1 x2 x3 x4 x5 x6 x7 x9 s0) (fun r => (zQ [3, 5, 6, 7, 8, 9, 21, 22, 23, 24, 25] [(0, 31, 33)] [4, 10, 11] [(0, 30, 30)]) σ0 (r)) := by
  unfold fX12_sprites_212
  exact zpc_bi (fk_fX12_video8 h) (fun σ9 v10 hσ9 => zpc_bi (fk_fX12_bit hσ9) (fun σ11 v12 hσ11 => zpc_if (fun _ => fk_fX12_sprites_244 hk73 hσ11) (fun _ => fk_fX12_sprites_244 hk73 hσ11)))
theorem fk_fX12_sprites_183 {σ0 : zSt} {k73 : zSt → Int32 → Int32 → Int32 → Int32 → Int32 → Int32 → Int32 → Option (zSt)} (hk73 : ∀ (y0 : zSt) (y1 : Int32) (y2 : Int32) (y3 : Int32) (y4 : Int32) (y5 : Int32) (y6 : Int32) (y7 : Int32), (zQ [3, 5, 6, 7, 8, 9, 21, 22, 23, 24, 25] [(0, 31, 33)] [4, 10, 11] [(0, 30, 30)]) σ0 y0 → zpc (k73 y0 y1 y2 y3 y4 y5 y6 y7) (fun r => (zQ [3, 5, 6, 7, 8, 9, 21, 22, 23, 24, 25] [(0, 31, 33)] [4, 10, 11] [(0, 30, 30)]) σ0 (r))) {σ : zSt} {x1 : Int32} {x2 : Int32} {x3 : Int32} {x4 : Int32} {x5 : Int32} {x6 : Int32} {x7 : Int32} {x9 : Int32} {s0 : Int32} {s1 : Int32} (h : (zQ [3, 5, 6, 7, 8, 9, 21, 22, 23, 24, 25] [(0, 31, 33)] [4, 10, 11] [(0, 30, 30)]) σ0 σ) : zpc (fX12_sprites_183 k73 σ x1 x2 x3 x4 x5 x6 x7 x9 s0 s1) (fun r => (zQ [3, 5, 6, 7, 8, 9, 21, 22, 23, 24, 25] [(0, 31, 33)] [4, 10, 11] [(0, 30, 30)]) σ0 (r)) := by
  unfold fX12_sprites_183
  exact zpc_bv (fun v13 _ => zpc_if (fun _ => zpc_ck (zpc_ck (fk_fX12_sprites_212 hk73 h))) (fun _ => fk_fX12_sprites_212 hk73 h))
theorem fk_fX12_sprites_104 {σ0 : zSt} {k73 : zSt → Int32 → Int32 → Int32 → Int32 → Int32 → Int32 → Int32 → Option (zSt)} (hk73 : ∀ (y0 : zSt) (y1 : Int32) (y2 : Int32) (y3 : Int32) (y4 : Int32) (y5 : Int32) (y6 : Int32) (y7 : Int32), (zQ [3, 5, 6, 7, 8, 9, 21, 22, 23, 24, 25] [(0, 31, 33)] [4, 10, 11] [(0, 30, 30)]) σ0 y0 → zpc (k73 y0 y1 y2 y3 y4 y5 y6 y7) (fun r => (zQ [3, 5, 6, 7, 8, 9, 21, 22, 23, 24, 25] [(0, 31, 33)] [4, 10, 11] [(0, 30, 30)]) σ0 (r))) {σ : zSt} {x1 : Int32} {x2 : Int32} {x3 : Int32} {x4 : Int32} {x5 : Int32} {x6 : Int32} {x7 : Int32} {x8 : Int32} (h : (zQ [3, 5, 6, 7, 8, 9, 21, 22, 23, 24, 25] [(0, 31, 33)] [4, 10, 11] [(0, 30, 30)]) σ0 σ) : zpc (fX12_sprites_104 k73 σ x1 x2 x3 x4 x5 x6 x7 x8) (fun r => (zQ [3, 5, 6, 7, 8, 9, 21, 22, 23, 24, 25] [(0, 31, 33)] [4, 10, 11] [(0, 30, 30)]) σ0 (r)) := by
  unfold fX12_sprites_104
  exact zpc_bv (fun v14 _ => zpc_if (fun _ => zpc_if (fun _ => zpc_ck (zpc_ck (zpc_bs (zQ.wi h rfl) (fun σ20 hσ20 => zpc_some hσ20)))) (fun _ => zpc_bv (fun v15 _ => zpc_bi (fk_fX12_video8 h) (fun σ16 v17 hσ16 => zpc_bi (fk_fX12_bit hσ16) (fun σ18 v19 hσ18 => zpc_if (fun _ => fk_fX12_sprites_183 hk73 hσ18) (fun _ => fk_fX12_sprites_183 hk73 hσ18)))))) (fun _ => fk_fX12_sprites_349 hk73 h))
theorem fk_fX12_sprites_73_body {σ0 : zSt} {k73 : zSt → Int32 → Int32 → Int32 → Int32 → Int32 → Int32 → Int32 → Option (zSt)} (hk73 : ∀ (y0 : zSt) (y1 : Int32) (y2 : Int32) (y3 : Int32) (y4 : Int32) (y5 : Int32) (y6 : Int32) (y7 : Int32), (zQ [3, 5, 6, 7, 8, 9, 21, 22, 23, 24, 25] [(0, 31, 33)] [4, 10, 11] [(0, 30, 30)]) σ0 y0 → zpc (k73 y0 y1 y2 y3 y4 y5 y6 y7) (fun r => (zQ [3, 5, 6, 7, 8, 9, 21, 22, 23, 24, 25] [(0, 31, 33)] [4, 10, 11] [(0, 30, 30)]) σ0 (r))) {σ : zSt} {x1 : Int32} {x2 : Int32} {x3 : Int32} {x4 : Int32} {x5 : Int32} {x6 : Int32} {x7 : Int32} (h : (zQ [3, 5, 6, 7, 8, 9, 21, 22, 23, 24, 25] [(0, 31, 33)] [4, 10, 11] [(0, 30, 30)]) σ0 σ) : zpc (fX12_sprites_73_body k73 σ x1 x2 x3 x4 x5 x6 x7) (fun r => (zQ [3, 5, 6, 7, 8, 9, 21, 22, 23, 24, 25] [(0, 31, 33)] [4, 10, 11] [(0, 30, 30)]) σ0 (r)) := by
  unfold fX12_sprites_73_body
  exact zpc_if (fun _ => zpc_some h) (fun _ => zpc_bi (fk_fX12_video8 h) (fun σ21 v22 hσ21 => zpc_if (fun _ => fk_fX12_sprites_104 hk73 hσ21) (fun _ => zpc_if (fun _ => zpc_some hσ21) (fun _ => fk_fX12_sprites_104 hk73 hσ21))))
theorem fk_fX12_sprites_73 {σ0 : zSt} : ∀ (n : Nat) (y0 : zSt) (y1 : Int32) (y2 : Int32) (y3 : Int32) (y4 : Int32) (y5 : Int32) (y6 : Int32) (y7 : Int32), (zQ [3, 5, 6, 7, 8, 9, 21, 22, 23, 24, 25] [(0, 31, 33)] [4, 10, 11] [(0, 30, 30)]) σ0 y0 → zpc (fX12_sprites_73 n y0 y1 y2 y3 y4 y5 y6 y7) (fun r => (zQ [3, 5, 6, 7, 8, 9, 21, 22, 23, 24, 25] [(0, 31, 33)] [4, 10, 11] [(0, 30, 30)]) σ0 (r)) := by
  intro n
  induction n with
  | zero => intro y0 y1 y2 y3 y4 y5 y6 y7 h; exact zpc_none
  | succ n ih => intro y0 y1 y2 y3 y4 y5 y6 y7 h; exact fk_fX12_sprites_73_body ih h
theorem fk_fX12_sprites_68 {σ0 : zSt} {σ : zSt} {x1 : Int32} {x2 : Int32} {x3 : Int32} {x4 : Int32} {x5 : Int32} {s0 : Int32} (h : (zQ [3, 5, 6, 7, 8, 9, 21, 22, 23, 24, 25] [(0, 31, 33)] [4, 10, 11] [(0, 30, 30)]) σ0 σ) : zpc (fX12_sprites_68 σ x1 x2 x3 x4 x5 s0) (fun r => (zQ [3, 5, 6, 7, 8, 9, 21, 22, 23, 24, 25] [(0, 31, 33)] [4, 10, 11] [(0, 30, 30)]) σ0 (r)) := by
  unfold fX12_sprites_68
  exact fk_fX12_sprites_73 _ _ _ _ _ _ _ _ _ h
theorem fk_fX12_sprites_48 {σ0 : zSt} {σ : zSt} {x1 : Int32} {x2 : Int32} {x3 : Int32} {s0 : Int32} (h : (zQ [3, 5, 6, 7, 8, 9, 21, 22, 23, 24, 25] [(0, 31, 33)] [4, 10, 11] [(0, 30, 30)]) σ0 σ) : zpc (fX12_sprites_48 σ x1 x2 x3 s0) (fun r => (zQ [3, 5, 6, 7, 8, 9, 21, 22, 23, 24, 25] [(0, 31, 33)] [4, 10, 11] [(0, 30, 30)]) σ0 (r)) := by
  unfold fX12_sprites_48
  exact zpc_bi (fk_fX12_height h) (fun σ23 v24 hσ23 => zpc_if (fun _ => fk_fX12_sprites_68 hσ23) (fun _ => fk_fX12_sprites_68 hσ23))
theorem fk_fX12_sprites_30 {σ0 : zSt} {σ : zSt} {x1 : Int32} {x2 : Int32} {s0 : Int32} (h : (zQ [3, 5, 6, 7, 8, 9, 21, 22, 23, 24, 25] [(0, 31, 33)] [4, 10, 11] [(0, 30, 30)]) σ0 σ) : zpc (fX12_sprites_30 σ x1 x2 s0) (fun r => (zQ [3, 5, 6, 7, 8, 9, 21, 22, 23, 24, 25] [(0, 31, 33)] [4, 10, 11] [(0, 30, 30)]) σ0 (r)) := by
  unfold fX12_sprites_30
  exact zpc_bi (fk_fX12_bit h) (fun σ25 v26 hσ25 => zpc_if (fun _ => fk_fX12_sprites_48 hσ25) (fun _ => fk_fX12_sprites_48 hσ25))
theorem fk_fX12_sprites {σ0 : zSt} {σ : zSt} {x1 : Int32} (h : (zQ [3, 5, 6, 7, 8, 9, 21, 22, 23, 24, 25] [(0, 31, 33)] [4, 10, 11] [(0, 30, 30)]) σ0 σ) : zpc (fX12_sprites σ x1) (fun r => (zQ [3, 5, 6, 7, 8, 9, 21, 22, 23, 24, 25] [(0, 31, 33)] [4, 10, 11] [(0, 30, 30)]) σ0 (r)) := by
  unfold fX12_sprites
  exact zpc_bi (fk_fX12_reg h) (fun σ27 v28 hσ27 => zpc_ck (zpc_ck (zpc_bv (fun v29 _ => zpc_bi (fk_fX12_bit hσ27) (fun σ30 v31 hσ30 => zpc_if (fun _ => fk_fX12_sprites_30 hσ30) (fun _ => fk_fX12_sprites_30 hσ30))))))
theorem fk_fX12_colour_62 {σ0 : zSt} {σ : zSt} {s0 : Int32} (h : (zQ [3, 5, 6, 7, 8, 9, 21, 22, 23, 24, 25] [(0, 31, 33)] [4, 10, 11] [(0, 30, 30)]) σ0 σ) : zpc (fX12_colour_62 σ s0) (fun r => (zQ [3, 5, 6, 7, 8, 9, 21, 22, 23, 24, 25] [(0, 31, 33)] [4, 10, 11] [(0, 30, 30)]) σ0 (r.1)) := by
  unfold fX12_colour_62
  exact zpc_some h
theorem fk_fX12_colour_252 {σ0 : zSt} {σ : zSt} {s0 : Int32} (h : (zQ [3, 5, 6, 7, 8, 9, 21, 22, 23, 24, 25] [(0, 31, 33)] [4, 10, 11] [(0, 30, 30)]) σ0 σ) : zpc (fX12_colour_252 σ s0) (fun r => (zQ [3, 5, 6, 7, 8, 9, 21, 22, 23, 24, 25] [(0, 31, 33)] [4, 10, 11] [(0, 30, 30)]) σ0 (r.1)) := by
  unfold fX12_colour_252
  exact zpc_some h
theorem fk_fX12_colour_217 {σ0 : zSt} {σ : zSt} {x2 : Int32} (h : (zQ [3, 5, 6, 7, 8, 9, 21, 22, 23, 24, 25] [(0, 31, 33)] [4, 10, 11] [(0, 30, 30)]) σ0 σ) : zpc (fX12_colour_217 σ x2) (fun r => (zQ [3, 5, 6, 7, 8, 9, 21, 22, 23, 24, 25] [(0, 31, 33)] [4, 10, 11] [(0, 30, 30)]) σ0 (r.1)) := by
  unfold fX12_colour_217
  exact zpc_if (fun _ => zpc_ck (zpc_ck (zpc_ck (zpc_ck (fk_fX12_colour_252 h))))) (fun _ => fk_fX12_colour_252 h)
theorem fk_fX12_colour {σ0 : zSt} {σ : zSt} {x1 : Int32} (h : (zQ [3, 5, 6, 7, 8, 9, 21, 22, 23, 24, 25] [(0, 31, 33)] [4, 10, 11] [(0, 30, 30)]) σ0 σ) : zpc (fX12_colour σ x1) (fun r => (zQ [3, 5, 6, 7, 8, 9, 21, 22, 23, 24, 25] [(0, 31, 33)] [4, 10, 11] [(0, 30, 30)]) σ0 (r.1)) := by
  unfold fX12_colour
  exact zpc_bi (fk_fX12_mode h) (fun σ1 v2 hσ1 => zpc_if (fun _ => zpc_if (fun _ => zpc_ck (zpc_ck (zpc_ck (fk_fX12_colour_62 hσ1)))) (fun _ => zpc_ck (fk_fX12_colour_62 hσ1))) (fun _ => zpc_if (fun _ => fk_fX12_colour_217 hσ1) (fun _ => zpc_if (fun _ => fk_fX12_colour_217 hσ1) (fun _ => zpc_if (fun _ => fk_fX12_colour_217 hσ1) (fun _ => zpc_if (fun _ => fk_fX12_colour_217 hσ1) (fun _ => zpc_if (fun _ => fk_fX12_colour_217 hσ1) (fun _ => zpc_if (fun _ => fk_fX12_colour_217 hσ1) (fun _ => zpc_if (fun _ => fk_fX12_colour_217 hσ1) (fun _ => zpc_if (fun _ => fk_fX12_colour_217 hσ1) (fun _ => zpc_if (fun _ => fk_fX12_colour_217 hσ1) (fun _ => zpc_if (fun _ => fk_fX12_colour_217 hσ1) (fun _ => zpc_if (fun _ => fk_fX12_colour_217 hσ1) (fun _ => zpc_if (fun _ => fk_fX12_colour_217 hσ1) (fun _ => zpc_if (fun _ => fk_fX12_colour_217 hσ1) (fun _ => zpc_if (fun _ => fk_fX12_colour_217 hσ1) (fun _ => fk_fX12_colour_217 hσ1))))))))))))))))
theorem fk_fX12_old_48 {σ0 : zSt} {σ : zSt} (h : (zQ [3, 5, 6, 7, 8, 9, 21, 22, 23, 24, 25] [(0, 31, 33)] [4, 10, 11] [(0, 30, 30)]) σ0 σ) : zpc (fX12_old_48 σ) (fun r => (zQ [3, 5, 6, 7, 8, 9, 21, 22, 23, 24, 25] [(0, 31, 33)] [4, 10, 11] [(0, 30, 30)]) σ0 (r.1)) := by
  unfold fX12_old_48
  exact zpc_some h
theorem fk_fX12_old_131 {σ0 : zSt} {σ : zSt} {s0 : Int32} (h : (zQ [3, 5, 6, 7, 8, 9, 21, 22, 23, 24, 25] [(0, 31, 33)] [4, 10, 11] [(0, 30, 30)]) σ0 σ) : zpc (fX12_old_131 σ s0) (fun r => (zQ [3, 5, 6, 7, 8, 9, 21, 22, 23, 24, 25] [(0, 31, 33)] [4, 10, 11] [(0, 30, 30)]) σ0 (r.1)) := by
  unfold fX12_old_131
  exact zpc_some h
theorem fk_fX12_old_209 {σ0 : zSt} {σ : zSt} {s0 : Int32} (h : (zQ [3, 5, 6, 7, 8, 9, 21, 22, 23, 24, 25] [(0, 31, 33)] [4, 10, 11] [(0, 30, 30)]) σ0 σ) : zpc (fX12_old_209 σ s0) (fun r => (zQ [3, 5, 6, 7, 8, 9, 21, 22, 23, 24, 25] [(0, 31, 33)] [4, 10, 11] [(0, 30, 30)]) σ0 (r.1)) := by
  unfold fX12_old_209
  exact zpc_some h
theorem fk_fX12_old_395 {σ0 : zSt} {σ : zSt} {s0 : Int32} (h : (zQ [3, 5, 6, 7, 8, 9, 21, 22, 23, 24, 25] [(0, 31, 33)] [4, 10, 11] [(0, 30, 30)]) σ0 σ) : zpc (fX12_old_395 σ s0) (fun r => (zQ [3, 5, 6, 7, 8, 9, 21, 22, 23, 24, 25] [(0, 31, 33)] [4, 10, 11] [(0, 30, 30)]) σ0 (r.1)) := by
  unfold fX12_old_395
  exact zpc_some h
theorem fk_fX12_old_367 {σ0 : zSt} {σ : zSt} {x2 : Int32} {x6 : Int32} {x7 : Int32} (h : (zQ [3, 5, 6, 7, 8, 9, 21, 22, 23, 24, 25] [(0, 31, 33)] [4, 10, 11] [(0, 30, 30)]) σ0 σ) : zpc (fX12_old_367 σ x2 x6 x7) (fun r => (zQ [3, 5, 6, 7, 8, 9, 21, 22, 23, 24, 25] [(0, 31, 33)] [4, 10, 11] [(0, 30, 30)]) σ0 (r.1)) := by
  unfold fX12_old_367
  exact zpc_ck (zpc_if (fun _ => fk_fX12_old_395 h) (fun _ => fk_fX12_old_395 h))
theorem fk_fX12_old {σ0 : zSt} {σ : zSt} {x1 : Int32} {x2 : Int32} (h : (zQ [3, 5, 6, 7, 8, 9, 21, 22, 23, 24, 25] [(0, 31, 33)] [4, 10, 11] [(0, 30, 30)]) σ0 σ) : zpc (fX12_old σ x1 x2) (fun r => (zQ [3, 5, 6, 7, 8, 9, 21, 22, 23, 24, 25] [(0, 31, 33)] [4, 10, 11] [(0, 30, 30)]) σ0 (r.1)) := by
  unfold fX12_old
  exact zpc_bi (fk_fX12_reg h) (fun σ1 v2 hσ1 => zpc_ck (zpc_bv (fun v3 _ => zpc_bi (fk_fX12_reg hσ1) (fun σ4 v5 hσ4 => zpc_ck (zpc_bv (fun v6 _ => zpc_bi (fk_fX12_mode hσ4) (fun σ7 v8 hσ7 => zpc_if (fun _ => zpc_if (fun _ => fk_fX12_old_48 hσ7) (fun _ => zpc_if (fun _ => zpc_ck (zpc_ck (zpc_bi (fk_fX12_video8 hσ7) (fun σ38 v39 hσ38 => zpc_ck (zpc_bi (fk_fX12_video8 hσ38) (fun σ40 v41 hσ40 => zpc_ck (zpc_bv (fun v42 _ => zpc_if (fun _ => zpc_bi (fk_fX12_reg hσ40) (fun σ45 v46 hσ45 => fk_fX12_old_131 hσ45)) (fun _ => zpc_bi (fk_fX12_reg hσ40) (fun σ43 v44 hσ43 => fk_fX12_old_131 hσ43)))))))))) (fun _ => fk_fX12_old_48 hσ7))) (fun _ => zpc_ck (zpc_ck (zpc_bi (fk_fX12_video8 hσ7) (fun σ9 v10 hσ9 => zpc_bi (fk_fX12_mode hσ9) (fun σ11 v12 hσ11 => zpc_if (fun _ => zpc_ck (zpc_ck (zpc_ck (zpc_ck (zpc_bi (fk_fX12_video8 hσ11) (fun σ36 v37 hσ36 => zpc_ck (zpc_if (fun _ => fk_fX12_old_209 hσ36) (fun _ => fk_fX12_old_209 hσ36)))))))) (fun _ => zpc_bi (fk_fX12_mode hσ11) (fun σ13 v14 hσ13 => zpc_if (fun _ => zpc_ck (zpc_bi (fk_fX12_video8 hσ13) (fun σ30 v31 hσ30 => zpc_bi (fk_fX12_reg hσ30) (fun σ32 v33 hσ32 => zpc_ck (zpc_bi (fk_fX12_video8 hσ32) (fun σ34 v35 hσ34 => fk_fX12_old_367 hσ34)))))) (fun _ => zpc_ck (zpc_bv (fun v15 _ => zpc_bi (fk_fX12_reg hσ13) (fun σ16 v17 hσ16 => zpc_ck (zpc_bv (fun v18 _ => zpc_bi (fk_fX12_reg hσ16) (fun σ19 v20 hσ19 => zpc_ck (zpc_bv (fun v21 _ => zpc_bi (fk_fX12_bit hσ19) (fun σ22 v23 hσ22 => zpc_ck (zpc_bi (fk_fX12_video8 hσ22) (fun σ24 v25 hσ24 => zpc_bi (fk_fX12_bit hσ24) (fun σ26 v27 hσ26 => zpc_ck (zpc_bi (fk_fX12_video8 hσ26) (fun σ28 v29 hσ28 => fk_fX12_old_367 hσ28)))))))))))))))))))))))))))))
theorem fk_fX12_oldSprites_388 {σ0 : zSt} {k40 : zSt → Int32 → Int32 → Int32 → Int32 → Int32 → Option (zSt)} (hk40 : ∀ (y0 : zSt) (y1 : Int32) (y2 : Int32) (y3 : Int32) (y4 : Int32) (y5 : Int32), (zQ [3, 5, 6, 7, 8, 9, 21, 22, 23, 24, 25] [(0, 31, 33)] [4, 10, 11] [(0, 30, 30)]) σ0 y0 → zpc (k40 y0 y1 y2 y3 y4 y5) (fun r => (zQ [3, 5, 6, 7, 8, 9, 21, 22, 23, 24, 25] [(0, 31, 33)] [4, 10, 11] [(0, 30, 30)]) σ0 (r))) {σ : zSt} {x1 : Int32} {x2 : Int32} {x3 : Int32} {x4 : Int32} {x5 : Int32} (h : (zQ [3, 5, 6, 7, 8, 9, 21, 22, 23, 24, 25] [(0, 31, 33)] [4, 10, 11] [(0, 30, 30)]) σ0 σ) : zpc (fX12_oldSprites_388 k40 σ x1 x2 x3 x4 x5) (fun r => (zQ [3, 5, 6, 7, 8, 9, 21, 22, 23, 24, 25] [(0, 31, 33)] [4, 10, 11] [(0, 30, 30)]) σ0 (r)) := by
  unfold fX12_oldSprites_388
  exact zpc_bv (fun v1 _ => hk40 _ _ _ _ _ _ h)
theorem fk_fX12_oldSprites_150 {σ0 : zSt} {σ : zSt} (h : (zQ [3, 5, 6, 7, 8, 9, 21, 22, 23, 24, 25] [(0, 31, 33)] [4, 10, 11] [(0, 30, 30)]) σ0 σ) : zpc (fX12_oldSprites_150 σ) (fun r => (zQ [3, 5, 6, 7, 8, 9, 21, 22, 23, 24, 25] [(0, 31, 33)] [4, 10, 11] [(0, 30, 30)]) σ0 (r)) := by
  unfold fX12_oldSprites_150
  exact zpc_some h
theorem fk_fX12_oldSprites_382 {σ0 : zSt} {k40 : zSt → Int32 → Int32 → Int32 → Int32 → Int32 → Option (zSt)} (hk40 : ∀ (y0 : zSt) (y1 : Int32) (y2 : Int32) (y3 : Int32) (y4 : Int32) (y5 : Int32), (zQ [3, 5, 6, 7, 8, 9, 21, 22, 23, 24, 25] [(0, 31, 33)] [4, 10, 11] [(0, 30, 30)]) σ0 y0 → zpc (k40 y0 y1 y2 y3 y4 y5) (fun r => (zQ [3, 5, 6, 7, 8, 9, 21, 22, 23, 24, 25] [(0, 31, 33)] [4, 10, 11] [(0, 30, 30)]) σ0 (r))) {k231 : zSt → Int32 → Int32 → Int32 → Int32 → Int32 → Int32 → Int32 → Int32 → Int32 → Int32 → Option (zSt)} (hk231 : ∀ (y0 : zSt) (y1 : Int32) (y2 : Int32) (y3 : Int32) (y4 : Int32) (y5 : Int32) (y6 : Int32) (y7 : Int32) (y8 : Int32) (y9 : Int32) (y10 : Int32), (zQ [3, 5, 6, 7, 8, 9, 21, 22, 23, 24, 25] [(0, 31, 33)] [4, 10, 11] [(0, 30, 30)]) σ0 y0 → zpc (k231 y0 y1 y2 y3 y4 y5 y6 y7 y8 y9 y10) (fun r => (zQ [3, 5, 6, 7, 8, 9, 21, 22, 23, 24, 25] [(0, 31, 33)] [4, 10, 11] [(0, 30, 30)]) σ0 (r))) {σ : zSt} {x1 : Int32} {x2 : Int32} {x3 : Int32} {x4 : Int32} {x5 : Int32} {x8 : Int32} {x9 : Int32} {x10 : Int32} {x11 : Int32} {x12 : Int32} (h : (zQ [3, 5, 6, 7, 8, 9, 21, 22, 23, 24, 25] [(0, 31, 33)] [4, 10, 11] [(0, 30, 30)]) σ0 σ) : zpc (fX12_oldSprites_382 k40 k231 σ x1 x2 x3 x4 x5 x8 x9 x10 x11 x12) (fun r => (zQ [3, 5, 6, 7, 8, 9, 21, 22, 23, 24, 25] [(0, 31, 33)] [4, 10, 11] [(0, 30, 30)]) σ0 (r)) := by
  unfold fX12_oldSprites_382
  exact zpc_bv (fun v2 _ => hk231 _ _ _ _ _ _ _ _ _ _ _ h)
theorem fk_fX12_oldSprites_350 {σ0 : zSt} {k40 : zSt → Int32 → Int32 → Int32 → Int32 → Int32 → Option (zSt)} (hk40 : ∀ (y0 : zSt) (y1 : Int32) (y2 : Int32) (y3 : Int32) (y4 : Int32) (y5 : Int32), (zQ [3, 5, 6, 7, 8, 9, 21, 22, 23, 24, 25] [(0, 31, 33)] [4, 10, 11] [(0, 30, 30)]) σ0 y0 → zpc (k40 y0 y1 y2 y3 y4 y5) (fun r => (zQ [3, 5, 6, 7, 8, 9, 21, 22, 23, 24, 25] [(0, 31, 33)] [4, 10, 11] [(0, 30, 30)]) σ0 (r))) {k231 : zSt → Int32 → Int32 → Int32 → Int32 → Int32 → Int32 → Int32 → Int32 → Int32 → Int32 → Option (zSt)} (hk231 : ∀ (y0 : zSt) (y1 : Int32) (y2 : Int32) (y3 : Int32) (y4 : Int32) (y5 : Int32) (y6 : Int32) (y7 : Int32) (y8 : Int32) (y9 : Int32) (y10 : Int32), (zQ [3, 5, 6, 7, 8, 9, 21, 22, 23, 24, 25] [(0, 31, 33)] [4, 10, 11] [(0, 30, 30)]) σ0 y0 → zpc (k231 y0 y1 y2 y3 y4 y5 y6 y7 y8 y9 y10) (fun r => (zQ [3, 5, 6, 7, 8, 9, 21, 22, 23, 24, 25] [(0, 31, 33)] [4, 10, 11] [(0, 30, 30)]) σ0 (r))) {σ : zSt} {x1 : Int32} {x2 : Int32} {x3 : Int32} {x4 : Int32} {x5 : Int32} {x8 : Int32} {x9 : Int32} {x10 : Int32} {x11 : Int32} {x12 : Int32} {x15 : Int32} (h : (zQ [3, 5, 6, 7, 8, 9, 21, 22, 23, 24, 25] [(0, 31, 33)] [4, 10, 11] [(0, 30, 30)]) σ0 σ) : zpc (fX12_oldSprites_350 k40 k231 σ x1 x2 x3 x4 x5 x8 x9 x10 x11 x12 x15) (fun r => (zQ [3, 5, 6, 7, 8, 9, 21, 22, 23, 24, 25] [(0, 31, 33)] [4, 10, 11] [(0, 30, 30)]) σ0 (r)) := by
  unfold fX12_oldSprites_350
  exact zpc_ck (zpc_bs (zQ.wi h rfl) (fun σ3 hσ3 => zpc_if (fun _ => fk_fX12_oldSprites_382 hk40 hk231 hσ3) (fun _ => zpc_ck (zpc_if (fun _ => zpc_ck (zpc_bs (zQ.wi hσ3 rfl) (fun σ4 hσ4 => fk_fX12_oldSprites_382 hk40 hk231 hσ4))) (fun _ => fk_fX12_oldSprites_382 hk40 hk231 hσ3)))))
theorem fk_fX12_oldSprites_283 {σ0 : zSt} {k40 : zSt → Int32 → Int32 → Int32 → Int32 → Int32 → Option (zSt)} (hk40 : ∀ (y0 : zSt) (y1 : Int32) (y2 : Int32) (y3 : Int32) (y4 : Int32) (y5 : Int32), (zQ [3, 5, 6, 7, 8, 9, 21, 22, 23, 24, 25] [(0, 31, 33)] [4, 10, 11] [(0, 30, 30)]) σ0 y0 → zpc (k40 y0 y1 y2 y3 y4 y5) (fun r => (zQ [3, 5, 6, 7, 8, 9, 21, 22, 23, 24, 25] [(0, 31, 33)] [4, 10, 11] [(0, 30, 30)]) σ0 (r))) {k231 : zSt → Int32 → Int32 → Int32 → Int32 → Int32 → Int32 → Int32 → Int32 → Int32 → Int32 → Option (zSt)} (hk231 : ∀ (y0 : zSt) (y1 : Int32) (y2 : Int32) (y3 : Int32) (y4 : Int32) (y5 : Int32) (y6 : Int32) (y7 : Int32) (y8 : Int32) (y9 : Int32) (y10 : Int32), (zQ [3, 5, 6, 7, 8, 9, 21, 22, 23, 24, 25] [(0, 31, 33)] [4, 10, 11] [(0, 30, 30)]) σ0 y0 → zpc (k231 y0 y1 y2 y3 y4 y5 y6 y7 y8 y9 y10) (fun r => (zQ [3, 5, 6, 7, 8, 9, 21, 22, 23, 24, 25] [(0, 31, 33)] [4, 10, 11] [(0, 30, 30)]) σ0 (r))) {σ : zSt} {x1 : Int32} {x2 : Int32} {x3 : Int32} {x4 : Int32} {x5 : Int32} {x8 : Int32} {x9 : Int32} {x10 : Int32} {x11 : Int32} {x12 : Int32} {x13 : Int32} {s0 : Int32} {s1 : Int32} (h : (zQ [3, 5, 6, 7, 8, 9, 21, 22, 23, 24, 25] [(0, 31, 33)] [4, 10, 11] [(0, 30, 30)]) σ0 σ) : zpc (fX12_oldSprites_283 k40 k231 σ x1 x2 x3 x4 x5 x8 x9 x10 x11 x12 x13 s0 s1) (fun r => (zQ [3, 5, 6, 7, 8, 9, 21, 22, 23, 24, 25] [(0, 31, 33)] [4, 10, 11] [(0, 30, 30)]) σ0 (r)) := by
  unfold fX12_oldSprites_283
  exact zpc_bi (fk_fX12_video8 h) (fun σ5 v6 hσ5 => zpc_ck (zpc_bv (fun v7 _ => zpc_bv (fun v8 _ => zpc_if (fun _ => fk_fX12_oldSprites_382 hk40 hk231 hσ5) (fun _ => zpc_if (fun _ => fk_fX12_oldSprites_382 hk40 hk231 hσ5) (fun _ => zpc_if (fun _ => zpc_ck (zpc_if (fun _ => fk_fX12_oldSprites_350 hk40 hk231 hσ5) (fun _ => zpc_ck (zpc_ck (zpc_bs (zQ.wi hσ5 rfl) (fun σ9 hσ9 => fk_fX12_oldSprites_350 hk40 hk231 hσ9)))))) (fun _ => fk_fX12_oldSprites_382 hk40 hk231 hσ5)))))))
theorem fk_fX12_oldSprites_231_body {σ0 : zSt} {k40 : zSt → Int32 → Int32 → Int32 → Int32 → Int32 → Option (zSt)} (hk40 : ∀ (y0 : zSt) (y1 : Int32) (y2 : Int32) (y3 : Int32) (y4 : Int32) (y5 : Int32), (zQ [3, 5, 6, 7, 8, 9, 21, 22, 23, 24, 25] [(0, 31, 33)] [4, 10, 11] [(0, 30, 30)]) σ0 y0 → zpc (k40 y0 y1 y2 y3 y4 y5) (fun r => (zQ [3, 5, 6, 7, 8, 9, 21, 22, 23, 24, 25] [(0, 31, 33)] [4, 10, 11] [(0, 30, 30)]) σ0 (r))) {k231 : zSt → Int32 → Int32 → Int32 → Int32 → Int32 → Int32 → Int32 → Int32 → Int32 → Int32 → Option (zSt)} (hk231 : ∀ (y0 : zSt) (y1 : Int32) (y2 : Int32) (y3 : Int32) (y4 : Int32) (y5 : Int32) (y6 : Int32) (y7 : Int32) (y8 : Int32) (y9 : Int32) (y10 : Int32), (zQ [3, 5, 6, 7, 8, 9, 21, 22, 23, 24, 25] [(0, 31, 33)] [4, 10, 11] [(0, 30, 30)]) σ0 y0 → zpc (k231 y0 y1 y2 y3 y4 y5 y6 y7 y8 y9 y10) (fun r => (zQ [3, 5, 6, 7, 8, 9, 21, 22, 23, 24, 25] [(0, 31, 33)] [4, 10, 11] [(0, 30, 30)]) σ0 (r))) {σ : zSt} {x1 : Int32} {x2 : Int32} {x3 : Int32} {x4 : Int32} {x5 : Int32} {x8 : Int32} {x9 : Int32} {x10 : Int32} {x11 : Int32} {x12 : Int32} (h : (zQ [3, 5, 6, 7, 8, 9, 21, 22, 23, 24, 25] [(0, 31, 33)] [4, 10, 11] [(0, 30, 30)]) σ0 σ) : zpc (fX12_oldSprites_231_body k40 k231 σ x1 x2 x3 x4 x5 x8 x9 x10 x11 x12) (fun r => (zQ [3, 5, 6, 7, 8, 9, 21, 22, 23, 24, 25] [(0, 31, 33)] [4, 10, 11] [(0, 30, 30)]) σ0 (r)) := by
  unfold fX12_oldSprites_231_body
  exact zpc_if (fun _ => fk_fX12_oldSprites_388 hk40 h) (fun _ => zpc_ck (zpc_bv (fun v10 _ => zpc_bi (fk_fX12_reg h) (fun σ11 v12 hσ11 => zpc_ck (zpc_ck (zpc_if (fun _ => fk_fX12_oldSprites_283 hk40 hk231 hσ11) (fun _ => fk_fX12_oldSprites_283 hk40 hk231 hσ11)))))))
theorem fk_fX12_oldSprites_231 {σ0 : zSt} {k40 : zSt → Int32 → Int32 → Int32 → Int32 → Int32 → Option (zSt)} (hk40 : ∀ (y0 : zSt) (y1 : Int32) (y2 : Int32) (y3 : Int32) (y4 : Int32) (y5 : Int32), (zQ [3, 5, 6, 7, 8, 9, 21, 22, 23, 24, 25] [(0, 31, 33)] [4, 10, 11] [(0, 30, 30)]) σ0 y0 → zpc (k40 y0 y1 y2 y3 y4 y5) (fun r => (zQ [3, 5, 6, 7, 8, 9, 21, 22, 23, 24, 25] [(0, 31, 33)] [4, 10, 11] [(0, 30, 30)]) σ0 (r))) : ∀ (n : Nat) (y0 : zSt) (y1 : Int32) (y2 : Int32) (y3 : Int32) (y4 : Int32) (y5 : Int32) (y6 : Int32) (y7 : Int32) (y8 : Int32) (y9 : Int32) (y10 : Int32), (zQ [3, 5, 6, 7, 8, 9, 21, 22, 23, 24, 25] [(0, 31, 33)] [4, 10, 11] [(0, 30, 30)]) σ0 y0 → zpc (fX12_oldSprites_231 k40 n y0 y1 y2 y3 y4 y5 y6 y7 y8 y9 y10) (fun r => (zQ [3, 5, 6, 7, 8, 9, 21, 22, 23, 24, 25] [(0, 31, 33)] [4, 10, 11] [(0, 30, 30)]) σ0 (r)) := by
  intro n
  induction n with
  | zero => intro y0 y1 y2 y3 y4 y5 y6 y7 y8 y9 y10 h; exact zpc_none
  | succ n ih => intro y0 y1 y2 y3 y4 y5 y6 y7 y8 y9 y10 h; exact fk_fX12_oldSprites_231_body hk40 ih h
theorem fk_fX12_oldSprites_225 {σ0 : zSt} {k40 : zSt → Int32 → Int32 → Int32 → Int32 → Int32 → Option (zSt)} (hk40 : ∀ (y0 : zSt) (y1 : Int32) (y2 : Int32) (y3 : Int32) (y4 : Int32) (y5 : Int32), (zQ [3, 5, 6, 7, 8, 9, 21, 22, 23, 24, 25] [(0, 31, 33)] [4, 10, 11] [(0, 30, 30)]) σ0 y0 → zpc (k40 y0 y1 y2 y3 y4 y5) (fun r => (zQ [3, 5, 6, 7, 8, 9, 21, 22, 23, 24, 25] [(0, 31, 33)] [4, 10, 11] [(0, 30, 30)]) σ0 (r))) {σ : zSt} {x1 : Int32} {x2 : Int32} {x3 : Int32} {x4 : Int32} {x5 : Int32} {x8 : Int32} {x9 : Int32} {x10 : Int32} {s0 : Int32} {s1 : Int32} (h : (zQ [3, 5, 6, 7, 8, 9, 21, 22, 23, 24, 25] [(0, 31, 33)] [4, 10, 11] [(0, 30, 30)]) σ0 σ) : zpc (fX12_oldSprites_225 k40 σ x1 x2 x3 x4 x5 x8 x9 x10 s0 s1) (fun r => (zQ [3, 5, 6, 7, 8, 9, 21, 22, 23, 24, 25] [(0, 31, 33)] [4, 10, 11] [(0, 30, 30)]) σ0 (r)) := by
  unfold fX12_oldSprites_225
  exact zpc_bv (fun v13 _ => fk_fX12_oldSprites_231 hk40 _ _ _ _ _ _ _ _ _ _ _ _ h)
theorem fk_fX12_oldSprites_183 {σ0 : zSt} {k40 : zSt → Int32 → Int32 → Int32 → Int32 → Int32 → Option (zSt)} (hk40 : ∀ (y0 : zSt) (y1 : Int32) (y2 : Int32) (y3 : Int32) (y4 : Int32) (y5 : Int32), (zQ [3, 5, 6, 7, 8, 9, 21, 22, 23, 24, 25] [(0, 31, 33)] [4, 10, 11] [(0, 30, 30)]) σ0 y0 → zpc (k40 y0 y1 y2 y3 y4 y5) (fun r => (zQ [3, 5, 6, 7, 8, 9, 21, 22, 23, 24, 25] [(0, 31, 33)] [4, 10, 11] [(0, 30, 30)]) σ0 (r))) {σ : zSt} {x1 : Int32} {x2 : Int32} {x3 : Int32} {x4 : Int32} {x5 : Int32} {x6 : Int32} {x8 : Int32} {s0 : Int32} (h : (zQ [3, 5, 6, 7, 8, 9, 21, 22, 23, 24, 25] [(0, 31, 33)] [4, 10, 11] [(0, 30, 30)]) σ0 σ) : zpc (fX12_oldSprites_183 k40 σ x1 x2 x3 x4 x5 x6 x8 s0) (fun r => (zQ [3, 5, 6, 7, 8, 9, 21, 22, 23, 24, 25] [(0, 31, 33)] [4, 10, 11] [(0, 30, 30)]) σ0 (r)) := by
  unfold fX12_oldSprites_183
  exact zpc_bi (fk_fX12_video8 h) (fun σ14 v15 hσ14 => zpc_bv (fun v16 _ => zpc_bi (fk_fX12_video8 hσ14) (fun σ17 v18 hσ17 => zpc_bi (fk_fX12_video8 hσ17) (fun σ19 v20 hσ19 => zpc_if (fun _ => fk_fX12_oldSprites_225 hk40 hσ19) (fun _ => fk_fX12_oldSprites_225 hk40 hσ19)))))
theorem fk_fX12_oldSprites_40_body {σ0 : zSt} {k40 : zSt → Int32 → Int32 → Int32 → Int32 → Int32 → Option (zSt)} (hk40 : ∀ (y0 : zSt) (y1 : Int32) (y2 : Int32) (y3 : Int32) (y4 : Int32) (y5 : Int32), (zQ [3, 5, 6, 7, 8, 9, 21, 22, 23, 24, 25] [(0, 31, 33)] [4, 10, 11] [(0, 30, 30)]) σ0 y0 → zpc (k40 y0 y1 y2 y3 y4 y5) (fun r => (zQ [3, 5, 6, 7, 8, 9, 21, 22, 23, 24, 25] [(0, 31, 33)] [4, 10, 11] [(0, 30, 30)]) σ0 (r))) {σ : zSt} {x1 : Int32} {x2 : Int32} {x3 : Int32} {x4 : Int32} {x5 : Int32} (h : (zQ [3, 5, 6, 7, 8, 9, 21, 22, 23, 24, 25] [(0, 31, 33)] [4, 10, 11] [(0, 30, 30)]) σ0 σ) : zpc (fX12_oldSprites_40_body k40 σ x1 x2 x3 x4 x5) (fun r => (zQ [3, 5, 6, 7, 8, 9, 21, 22, 23, 24, 25] [(0, 31, 33)] [4, 10, 11] [(0, 30, 30)]) σ0 (r)) := by
  unfold fX12_oldSprites_40_body
  exact zpc_if (fun _ => zpc_some h) (fun _ => zpc_bi (fk_fX12_reg h) (fun σ21 v22 hσ21 => zpc_ck (zpc_bv (fun v23 _ => zpc_bi (fk_fX12_video8 hσ21) (fun σ24 v25 hσ24 => zpc_if (fun _ => zpc_some hσ24) (fun _ => zpc_bv (fun v26 _ => zpc_if (fun _ => zpc_if (fun _ => zpc_ck (zpc_if (fun _ => zpc_ck (zpc_ck (zpc_bs (zQ.wi hσ24 rfl) (fun σ32 hσ32 => fk_fX12_oldSprites_150 hσ32)))) (fun _ => fk_fX12_oldSprites_150 hσ24))) (fun _ => zpc_bv (fun v27 _ => zpc_if (fun _ => zpc_bi (fk_fX12_video8 hσ24) (fun σ30 v31 hσ30 => fk_fX12_oldSprites_183 hk40 hσ30)) (fun _ => zpc_bi (fk_fX12_video8 hσ24) (fun σ28 v29 hσ28 => fk_fX12_oldSprites_183 hk40 hσ28))))) (fun _ => fk_fX12_oldSprites_388 hk40 hσ24))))))))
theorem fk_fX12_oldSprites_40 {σ0 : zSt} : ∀ (n : Nat) (y0 : zSt) (y1 : Int32) (y2 : Int32) (y3 : Int32) (y4 : Int32) (y5 : Int32), (zQ [3, 5, 6, 7, 8, 9, 21, 22, 23, 24, 25] [(0, 31, 33)] [4, 10, 11] [(0, 30, 30)]) σ0 y0 → zpc (fX12_oldSprites_40 n y0 y1 y2 y3 y4 y5) (fun r => (zQ [3, 5, 6, 7, 8, 9, 21, 22, 23, 24, 25] [(0, 31, 33)] [4, 10, 11] [(0, 30, 30)]) σ0 (r)) := by
  intro n
  induction n with
  | zero => intro y0 y1 y2 y3 y4 y5 h; exact zpc_none
  | succ n ih => intro y0 y1 y2 y3 y4 y5 h; exact fk_fX12_oldSprites_40_body ih h
theorem fk_fX12_oldSprites_33 {σ0 : zSt} {σ : zSt} {x1 : Int32} {x2 : Int32} {s0 : Int32} (h : (zQ [3, 5, 6, 7, 8, 9, 21, 22, 23, 24, 25] [(0, 31, 33)] [4, 10, 11] [(0, 30, 30)]) σ0 σ) : zpc (fX12_oldSprites_33 σ x1 x2 s0) (fun r => (zQ [3, 5, 6, 7, 8, 9, 21, 22, 23, 24, 25] [(0, 31, 33)] [4, 10, 11] [(0, 30, 30)]) σ0 (r)) := by
  unfold fX12_oldSprites_33
  exact fk_fX12_oldSprites_40 _ _ _ _ _ _ _ h
theorem fk_fX12_oldSprites_15 {σ0 : zSt} {σ : zSt} {x1 : Int32} {s0 : Int32} (h : (zQ [3, 5, 6, 7, 8, 9, 21, 22, 23, 24, 25] [(0, 31, 33)] [4, 10, 11] [(0, 30, 30)]) σ0 σ) : zpc (fX12_oldSprites_15 σ x1 s0) (fun r => (zQ [3, 5, 6, 7, 8, 9, 21, 22, 23, 24, 25] [(0, 31, 33)] [4, 10, 11] [(0, 30, 30)]) σ0 (r)) := by
  unfold fX12_oldSprites_15
  exact zpc_bi (fk_fX12_bit h) (fun σ33 v34 hσ33 => zpc_if (fun _ => fk_fX12_oldSprites_33 hσ33) (fun _ => fk_fX12_oldSprites_33 hσ33))
theorem fk_fX12_oldSprites {σ0 : zSt} {σ : zSt} {x1 : Int32} (h : (zQ [3, 5, 6, 7, 8, 9, 21, 22, 23, 24, 25] [(0, 31, 33)] [4, 10, 11] [(0, 30, 30)]) σ0 σ) : zpc (fX12_oldSprites σ x1) (fun r => (zQ [3, 5, 6, 7, 8, 9, 21, 22, 23, 24, 25] [(0, 31, 33)] [4, 10, 11] [(0, 30, 30)]) σ0 (r)) := by
  unfold fX12_oldSprites
  exact zpc_bi (fk_fX12_bit h) (fun σ35 v36 hσ35 => zpc_if (fun _ => fk_fX12_oldSprites_15 hσ35) (fun _ => fk_fX12_oldSprites_15 hσ35))
theorem fk_fX12_draws_302_body {σ0 : zSt} {k302 : zSt → Int32 → Int32 → Option (zSt)} (hk302 : ∀ (y0 : zSt) (y1 : Int32) (y2 : Int32), (zQ [3, 5, 6, 7, 8, 9, 21, 22, 23, 24, 25] [(0, 31, 33)] [4, 10, 11] [(0, 30, 30)]) σ0 y0 → zpc (k302 y0 y1 y2) (fun r => (zQ [3, 5, 6, 7, 8, 9, 21, 22, 23, 24, 25] [(0, 31, 33)] [4, 10, 11] [(0, 30, 30)]) σ0 (r))) {σ : zSt} {x1 : Int32} {x3 : Int32} (h : (zQ [3, 5, 6, 7, 8, 9, 21, 22, 23, 24, 25] [(0, 31, 33)] [4, 10, 11] [(0, 30, 30)]) σ0 σ) : zpc (fX12_draws_302_body k302 σ x1 x3) (fun r => (zQ [3, 5, 6, 7, 8, 9, 21, 22, 23, 24, 25] [(0, 31, 33)] [4, 10, 11] [(0, 30, 30)]) σ0 (r)) := by
  unfold fX12_draws_302_body
  exact zpc_if (fun _ => zpc_some h) (fun _ => zpc_ck (zpc_bi (fk_fX12_colour h) (fun σ1 v2 hσ1 => zpc_ck (zpc_bs (zQ.wi hσ1 rfl) (fun σ3 hσ3 => zpc_bv (fun v4 _ => hk302 _ _ _ hσ3))))))
theorem fk_fX12_draws_302 {σ0 : zSt} : ∀ (n : Nat) (y0 : zSt) (y1 : Int32) (y2 : Int32), (zQ [3, 5, 6, 7, 8, 9, 21, 22, 23, 24, 25] [(0, 31, 33)] [4, 10, 11] [(0, 30, 30)]) σ0 y0 → zpc (fX12_draws_302 n y0 y1 y2) (fun r => (zQ [3, 5, 6, 7, 8, 9, 21, 22, 23, 24, 25] [(0, 31, 33)] [4, 10, 11] [(0, 30, 30)]) σ0 (r)) := by
  intro n
  induction n with
  | zero => intro y0 y1 y2 h; exact zpc_none
  | succ n ih => intro y0 y1 y2 h; exact fk_fX12_draws_302_body ih h
theorem fk_fX12_draws_300 {σ0 : zSt} {σ : zSt} {x1 : Int32} (h : (zQ [3, 5, 6, 7, 8, 9, 21, 22, 23, 24, 25] [(0, 31, 33)] [4, 10, 11] [(0, 30, 30)]) σ0 σ) : zpc (fX12_draws_300 σ x1) (fun r => (zQ [3, 5, 6, 7, 8, 9, 21, 22, 23, 24, 25] [(0, 31, 33)] [4, 10, 11] [(0, 30, 30)]) σ0 (r)) := by
  unfold fX12_draws_300
  exact fk_fX12_draws_302 _ _ _ _ h
theorem fk_fX12_draws_244 {σ0 : zSt} {k213 : zSt → Int32 → Int32 → Int32 → Option (zSt)} (hk213 : ∀ (y0 : zSt) (y1 : Int32) (y2 : Int32) (y3 : Int32), (zQ [3, 5, 6, 7, 8, 9, 21, 22, 23, 24, 25] [(0, 31, 33)] [4, 10, 11] [(0, 30, 30)]) σ0 y0 → zpc (k213 y0 y1 y2 y3) (fun r => (zQ [3, 5, 6, 7, 8, 9, 21, 22, 23, 24, 25] [(0, 31, 33)] [4, 10, 11] [(0, 30, 30)]) σ0 (r))) {σ : zSt} {x1 : Int32} {x2 : Int32} {x3 : Int32} {s0 : Int32} {s1 : Int32} (h : (zQ [3, 5, 6, 7, 8, 9, 21, 22, 23, 24, 25] [(0, 31, 33)] [4, 10, 11] [(0, 30, 30)]) σ0 σ) : zpc (fX12_draws_244 k213 σ x1 x2 x3 s0 s1) (fun r => (zQ [3, 5, 6, 7, 8, 9, 21, 22, 23, 24, 25] [(0, 31, 33)] [4, 10, 11] [(0, 30, 30)]) σ0 (r)) := by
  unfold fX12_draws_244
  exact zpc_ck (zpc_bs (zQ.wi h rfl) (fun σ5 hσ5 => zpc_bv (fun v6 _ => hk213 _ _ _ _ hσ5)))
theorem fk_fX12_draws_294 {σ0 : zSt} {k266 : zSt → Int32 → Int32 → Option (zSt)} (hk266 : ∀ (y0 : zSt) (y1 : Int32) (y2 : Int32), (zQ [3, 5, 6, 7, 8, 9, 21, 22, 23, 24, 25] [(0, 31, 33)] [4, 10, 11] [(0, 30, 30)]) σ0 y0 → zpc (k266 y0 y1 y2) (fun r => (zQ [3, 5, 6, 7, 8, 9, 21, 22, 23, 24, 25] [(0, 31, 33)] [4, 10, 11] [(0, 30, 30)]) σ0 (r))) {σ : zSt} {x1 : Int32} {x3 : Int32} (h : (zQ [3, 5, 6, 7, 8, 9, 21, 22, 23, 24, 25] [(0, 31, 33)] [4, 10, 11] [(0, 30, 30)]) σ0 σ) : zpc (fX12_draws_294 k266 σ x1 x3) (fun r => (zQ [3, 5, 6, 7, 8, 9, 21, 22, 23, 24, 25] [(0, 31, 33)] [4, 10, 11] [(0, 30, 30)]) σ0 (r)) := by
  unfold fX12_draws_294
  exact zpc_bv (fun v7 _ => hk266 _ _ _ h)
theorem fk_fX12_draws_266_body {σ0 : zSt} {k266 : zSt → Int32 → Int32 → Option (zSt)} (hk266 : ∀ (y0 : zSt) (y1 : Int32) (y2 : Int32), (zQ [3, 5, 6, 7, 8, 9, 21, 22, 23, 24, 25] [(0, 31, 33)] [4, 10, 11] [(0, 30, 30)]) σ0 y0 → zpc (k266 y0 y1 y2) (fun r => (zQ [3, 5, 6, 7, 8, 9, 21, 22, 23, 24, 25] [(0, 31, 33)] [4, 10, 11] [(0, 30, 30)]) σ0 (r))) {σ : zSt} {x1 : Int32} {x3 : Int32} (h : (zQ [3, 5, 6, 7, 8, 9, 21, 22, 23, 24, 25] [(0, 31, 33)] [4, 10, 11] [(0, 30, 30)]) σ0 σ) : zpc (fX12_draws_266_body k266 σ x1 x3) (fun r => (zQ [3, 5, 6, 7, 8, 9, 21, 22, 23, 24, 25] [(0, 31, 33)] [4, 10, 11] [(0, 30, 30)]) σ0 (r)) := by
  unfold fX12_draws_266_body
  exact zpc_if (fun _ => fk_fX12_draws_300 h) (fun _ => zpc_ck (zpc_if (fun _ => fk_fX12_draws_294 hk266 h) (fun _ => zpc_ck (zpc_ck (zpc_bs (zQ.wi h rfl) (fun σ8 hσ8 => fk_fX12_draws_294 hk266 hσ8))))))
theorem fk_fX12_draws_266 {σ0 : zSt} : ∀ (n : Nat) (y0 : zSt) (y1 : Int32) (y2 : Int32), (zQ [3, 5, 6, 7, 8, 9, 21, 22, 23, 24, 25] [(0, 31, 33)] [4, 10, 11] [(0, 30, 30)]) σ0 y0 → zpc (fX12_draws_266 n y0 y1 y2) (fun r => (zQ [3, 5, 6, 7, 8, 9, 21, 22, 23, 24, 25] [(0, 31, 33)] [4, 10, 11] [(0, 30, 30)]) σ0 (r)) := by
  intro n
  induction n with
  | zero => intro y0 y1 y2 h; exact zpc_none
  | succ n ih => intro y0 y1 y2 h; exact fk_fX12_draws_266_body ih h
theorem fk_fX12_draws_264 {σ0 : zSt} {σ : zSt} {x1 : Int32} (h : (zQ [3, 5, 6, 7, 8, 9, 21, 22, 23, 24, 25] [(0, 31, 33)] [4, 10, 11] [(0, 30, 30)]) σ0 σ) : zpc (fX12_draws_264 σ x1) (fun r => (zQ [3, 5, 6, 7, 8, 9, 21, 22, 23, 24, 25] [(0, 31, 33)] [4, 10, 11] [(0, 30, 30)]) σ0 (r)) := by
  unfold fX12_draws_264
  exact fk_fX12_draws_266 _ _ _ _ h
theorem fk_fX12_draws_213_body {σ0 : zSt} {k213 : zSt → Int32 → Int32 → Int32 → Option (zSt)} (hk213 : ∀ (y0 : zSt) (y1 : Int32) (y2 : Int32) (y3 : Int32), (zQ [3, 5, 6, 7, 8, 9, 21, 22, 23, 24, 25] [(0, 31, 33)] [4, 10, 11] [(0, 30, 30)]) σ0 y0 → zpc (k213 y0 y1 y2 y3) (fun r => (zQ [3, 5, 6, 7, 8, 9, 21, 22, 23, 24, 25] [(0, 31, 33)] [4, 10, 11] [(0, 30, 30)]) σ0 (r))) {σ : zSt} {x1 : Int32} {x2 : Int32} {x3 : Int32} (h : (zQ [3, 5, 6, 7, 8, 9, 21, 22, 23, 24, 25] [(0, 31, 33)] [4, 10, 11] [(0, 30, 30)]) σ0 σ) : zpc (fX12_draws_213_body k213 σ x1 x2 x3) (fun r => (zQ [3, 5, 6, 7, 8, 9, 21, 22, 23, 24, 25] [(0, 31, 33)] [4, 10, 11] [(0, 30, 30)]) σ0 (r)) := by
  unfold fX12_draws_213_body
  exact zpc_if (fun _ => zpc_bi (fk_fX12_mode h) (fun σ9 v10 hσ9 => zpc_if (fun _ => fk_fX12_draws_264 hσ9) (fun _ => zpc_bu (fk_fX12_oldSprites hσ9) (fun σ11 hσ11 => fk_fX12_draws_264 hσ11)))) (fun _ => zpc_bi (fk_fX12_old h) (fun σ12 v13 hσ12 => zpc_if (fun _ => fk_fX12_draws_244 hk213 hσ12) (fun _ => fk_fX12_draws_244 hk213 hσ12)))
theorem fk_fX12_draws_213 {σ0 : zSt} : ∀ (n : Nat) (y0 : zSt) (y1 : Int32) (y2 : Int32) (y3 : Int32), (zQ [3, 5, 6, 7, 8, 9, 21, 22, 23, 24, 25] [(0, 31, 33)] [4, 10, 11] [(0, 30, 30)]) σ0 y0 → zpc (fX12_draws_213 n y0 y1 y2 y3) (fun r => (zQ [3, 5, 6, 7, 8, 9, 21, 22, 23, 24, 25] [(0, 31, 33)] [4, 10, 11] [(0, 30, 30)]) σ0 (r)) := by
  intro n
  induction n with
  | zero => intro y0 y1 y2 y3 h; exact zpc_none
  | succ n ih => intro y0 y1 y2 y3 h; exact fk_fX12_draws_213_body ih h
theorem fk_fX12_draws_200 {σ0 : zSt} {σ : zSt} {x1 : Int32} {x2 : Int32} (h : (zQ [3, 5, 6, 7, 8, 9, 21, 22, 23, 24, 25] [(0, 31, 33)] [4, 10, 11] [(0, 30, 30)]) σ0 σ) : zpc (fX12_draws_200 σ x1 x2) (fun r => (zQ [3, 5, 6, 7, 8, 9, 21, 22, 23, 24, 25] [(0, 31, 33)] [4, 10, 11] [(0, 30, 30)]) σ0 (r)) := by
  unfold fX12_draws_200
  exact zpc_bi (fk_fX12_bit h) (fun σ14 v15 hσ14 => zpc_if (fun _ => fk_fX12_draws_213 _ _ _ _ _ hσ14) (fun _ => fk_fX12_draws_300 hσ14))
theorem fk_fX12_draws_160 {σ0 : zSt} {k123 : zSt → Int32 → Int32 → Int32 → Option (zSt)} (hk123 : ∀ (y0 : zSt) (y1 : Int32) (y2 : Int32) (y3 : Int32), (zQ [3, 5, 6, 7, 8, 9, 21, 22, 23, 24, 25] [(0, 31, 33)] [4, 10, 11] [(0, 30, 30)]) σ0 y0 → zpc (k123 y0 y1 y2 y3) (fun r => (zQ [3, 5, 6, 7, 8, 9, 21, 22, 23, 24, 25] [(0, 31, 33)] [4, 10, 11] [(0, 30, 30)]) σ0 (r))) {σ : zSt} {x1 : Int32} {x2 : Int32} {x3 : Int32} (h : (zQ [3, 5, 6, 7, 8, 9, 21, 22, 23, 24, 25] [(0, 31, 33)] [4, 10, 11] [(0, 30, 30)]) σ0 σ) : zpc (fX12_draws_160 k123 σ x1 x2 x3) (fun r => (zQ [3, 5, 6, 7, 8, 9, 21, 22, 23, 24, 25] [(0, 31, 33)] [4, 10, 11] [(0, 30, 30)]) σ0 (r)) := by
  unfold fX12_draws_160
  exact zpc_bv (fun v16 _ => hk123 _ _ _ _ h)
theorem fk_fX12_draws_197 {σ0 : zSt} {σ : zSt} {x1 : Int32} (h : (zQ [3, 5, 6, 7, 8, 9, 21, 22, 23, 24, 25] [(0, 31, 33)] [4, 10, 11] [(0, 30, 30)]) σ0 σ) : zpc (fX12_draws_197 σ x1) (fun r => (zQ [3, 5, 6, 7, 8, 9, 21, 22, 23, 24, 25] [(0, 31, 33)] [4, 10, 11] [(0, 30, 30)]) σ0 (r)) := by
  unfold fX12_draws_197
  exact fk_fX12_draws_300 h
theorem fk_fX12_draws_168_body {σ0 : zSt} {k168 : zSt → Int32 → Int32 → Int32 → Option (zSt)} (hk168 : ∀ (y0 : zSt) (y1 : Int32) (y2 : Int32) (y3 : Int32), (zQ [3, 5, 6, 7, 8, 9, 21, 22, 23, 24, 25] [(0, 31, 33)] [4, 10, 11] [(0, 30, 30)]) σ0 y0 → zpc (k168 y0 y1 y2 y3) (fun r => (zQ [3, 5, 6, 7, 8, 9, 21, 22, 23, 24, 25] [(0, 31, 33)] [4, 10, 11] [(0, 30, 30)]) σ0 (r))) {σ : zSt} {x1 : Int32} {x2 : Int32} {x3 : Int32} (h : (zQ [3, 5, 6, 7, 8, 9, 21, 22, 23, 24, 25] [(0, 31, 33)] [4, 10, 11] [(0, 30, 30)]) σ0 σ) : zpc (fX12_draws_168_body k168 σ x1 x2 x3) (fun r => (zQ [3, 5, 6, 7, 8, 9, 21, 22, 23, 24, 25] [(0, 31, 33)] [4, 10, 11] [(0, 30, 30)]) σ0 (r)) := by
  unfold fX12_draws_168_body
  exact zpc_if (fun _ => fk_fX12_draws_197 h) (fun _ => zpc_bi (fk_fX12_bit h) (fun σ17 v18 hσ17 => zpc_if (fun _ => zpc_ck (zpc_bs (zQ.wi hσ17 rfl) (fun σ19 hσ19 => zpc_bv (fun v20 _ => hk168 _ _ _ _ hσ19)))) (fun _ => fk_fX12_draws_197 hσ17)))
theorem fk_fX12_draws_168 {σ0 : zSt} : ∀ (n : Nat) (y0 : zSt) (y1 : Int32) (y2 : Int32) (y3 : Int32), (zQ [3, 5, 6, 7, 8, 9, 21, 22, 23, 24, 25] [(0, 31, 33)] [4, 10, 11] [(0, 30, 30)]) σ0 y0 → zpc (fX12_draws_168 n y0 y1 y2 y3) (fun r => (zQ [3, 5, 6, 7, 8, 9, 21, 22, 23, 24, 25] [(0, 31, 33)] [4, 10, 11] [(0, 30, 30)]) σ0 (r)) := by
  intro n
  induction n with
  | zero => intro y0 y1 y2 y3 h; exact zpc_none
  | succ n ih => intro y0 y1 y2 y3 h; exact fk_fX12_draws_168_body ih h
theorem fk_fX12_draws_123_body {σ0 : zSt} {k123 : zSt → Int32 → Int32 → Int32 → Option (zSt)} (hk123 : ∀ (y0 : zSt) (y1 : Int32) (y2 : Int32) (y3 : Int32), (zQ [3, 5, 6, 7, 8, 9, 21, 22, 23, 24, 25] [(0, 31, 33)] [4, 10, 11] [(0, 30, 30)]) σ0 y0 → zpc (k123 y0 y1 y2 y3) (fun r => (zQ [3, 5, 6, 7, 8, 9, 21, 22, 23, 24, 25] [(0, 31, 33)] [4, 10, 11] [(0, 30, 30)]) σ0 (r))) {σ : zSt} {x1 : Int32} {x2 : Int32} {x3 : Int32} (h : (zQ [3, 5, 6, 7, 8, 9, 21, 22, 23, 24, 25] [(0, 31, 33)] [4, 10, 11] [(0, 30, 30)]) σ0 σ) : zpc (fX12_draws_123_body k123 σ x1 x2 x3) (fun r => (zQ [3, 5, 6, 7, 8, 9, 21, 22, 23, 24, 25] [(0, 31, 33)] [4, 10, 11] [(0, 30, 30)]) σ0 (r)) := by
  unfold fX12_draws_123_body
  exact zpc_if (fun _ => fk_fX12_draws_168 _ _ _ _ _ h) (fun _ => zpc_ck (zpc_if (fun _ => fk_fX12_draws_160 hk123 h) (fun _ => zpc_ck (zpc_if (fun _ => zpc_ck (zpc_ck (zpc_bs (zQ.wi h rfl) (fun σ21 hσ21 => fk_fX12_draws_160 hk123 hσ21)))) (fun _ => fk_fX12_draws_160 hk123 h)))))
theorem fk_fX12_draws_123 {σ0 : zSt} : ∀ (n : Nat) (y0 : zSt) (y1 : Int32) (y2 : Int32) (y3 : Int32), (zQ [3, 5, 6, 7, 8, 9, 21, 22, 23, 24, 25] [(0, 31, 33)] [4, 10, 11] [(0, 30, 30)]) σ0 y0 → zpc (fX12_draws_123 n y0 y1 y2 y3) (fun r => (zQ [3, 5, 6, 7, 8, 9, 21, 22, 23, 24, 25] [(0, 31, 33)] [4, 10, 11] [(0, 30, 30)]) σ0 (r)) := by
  intro n
  induction n with
  | zero => intro y0 y1 y2 y3 h; exact zpc_none
  | succ n ih => intro y0 y1 y2 y3 h; exact fk_fX12_draws_123_body ih h
theorem fk_fX12_draws_97_body {σ0 : zSt} {k97 : zSt → Int32 → Int32 → Int32 → Option (zSt)} (hk97 : ∀ (y0 : zSt) (y1 : Int32) (y2 : Int32) (y3 : Int32), (zQ [3, 5, 6, 7, 8, 9, 21, 22, 23, 24, 25] [(0, 31, 33)] [4, 10, 11] [(0, 30, 30)]) σ0 y0 → zpc (k97 y0 y1 y2 y3) (fun r => (zQ [3, 5, 6, 7, 8, 9, 21, 22, 23, 24, 25] [(0, 31, 33)] [4, 10, 11] [(0, 30, 30)]) σ0 (r))) {σ : zSt} {x1 : Int32} {x2 : Int32} {x3 : Int32} (h : (zQ [3, 5, 6, 7, 8, 9, 21, 22, 23, 24, 25] [(0, 31, 33)] [4, 10, 11] [(0, 30, 30)]) σ0 σ) : zpc (fX12_draws_97_body k97 σ x1 x2 x3) (fun r => (zQ [3, 5, 6, 7, 8, 9, 21, 22, 23, 24, 25] [(0, 31, 33)] [4, 10, 11] [(0, 30, 30)]) σ0 (r)) := by
  unfold fX12_draws_97_body
  exact zpc_if (fun _ => zpc_bu (fk_fX12_sprites h) (fun σ22 hσ22 => fk_fX12_draws_123 _ _ _ _ _ hσ22)) (fun _ => zpc_bu (fk_fX12_tile h) (fun σ23 hσ23 => zpc_bv (fun v24 _ => hk97 _ _ _ _ hσ23)))
theorem fk_fX12_draws_97 {σ0 : zSt} : ∀ (n : Nat) (y0 : zSt) (y1 : Int32) (y2 : Int32) (y3 : Int32), (zQ [3, 5, 6, 7, 8, 9, 21, 22, 23, 24, 25] [(0, 31, 33)] [4, 10, 11] [(0, 30, 30)]) σ0 y0 → zpc (fX12_draws_97 n y0 y1 y2 y3) (fun r => (zQ [3, 5, 6, 7, 8, 9, 21, 22, 23, 24, 25] [(0, 31, 33)] [4, 10, 11] [(0, 30, 30)]) σ0 (r)) := by
  intro n
  induction n with
  | zero => intro y0 y1 y2 y3 h; exact zpc_none
  | succ n ih => intro y0 y1 y2 y3 h; exact fk_fX12_draws_97_body ih h
theorem fk_fX12_draws_35_body {σ0 : zSt} {k35 : zSt → Int32 → Int32 → Int32 → Option (zSt)} (hk35 : ∀ (y0 : zSt) (y1 : Int32) (y2 : Int32) (y3 : Int32), (zQ [3, 5, 6, 7, 8, 9, 21, 22, 23, 24, 25] [(0, 31, 33)] [4, 10, 11] [(0, 30, 30)]) σ0 y0 → zpc (k35 y0 y1 y2 y3) (fun r => (zQ [3, 5, 6, 7, 8, 9, 21, 22, 23, 24, 25] [(0, 31, 33)] [4, 10, 11] [(0, 30, 30)]) σ0 (r))) {σ : zSt} {x1 : Int32} {x2 : Int32} {x3 : Int32} (h : (zQ [3, 5, 6, 7, 8, 9, 21, 22, 23, 24, 25] [(0, 31, 33)] [4, 10, 11] [(0, 30, 30)]) σ0 σ) : zpc (fX12_draws_35_body k35 σ x1 x2 x3) (fun r => (zQ [3, 5, 6, 7, 8, 9, 21, 22, 23, 24, 25] [(0, 31, 33)] [4, 10, 11] [(0, 30, 30)]) σ0 (r)) := by
  unfold fX12_draws_35_body
  exact zpc_if (fun _ => zpc_bi (fk_fX12_bit h) (fun σ25 v26 hσ25 => zpc_if (fun _ => zpc_bi (fk_fX12_mode hσ25) (fun σ27 v28 hσ27 => zpc_if (fun _ => fk_fX12_draws_97 _ _ _ _ _ hσ27) (fun _ => fk_fX12_draws_200 hσ27))) (fun _ => fk_fX12_draws_200 hσ25))) (fun _ => zpc_ck (zpc_bs (zQ.wi h rfl) (fun σ29 hσ29 => zpc_ck (zpc_bs (zQ.wi hσ29 rfl) (fun σ30 hσ30 => zpc_ck (zpc_bs (zQ.wi hσ30 rfl) (fun σ31 hσ31 => zpc_ck (zpc_bs (zQ.wi hσ31 rfl) (fun σ32 hσ32 => zpc_bv (fun v33 _ => hk35 _ _ _ _ hσ32))))))))))
theorem fk_fX12_draws_35 {σ0 : zSt} : ∀ (n : Nat) (y0 : zSt) (y1 : Int32) (y2 : Int32) (y3 : Int32), (zQ [3, 5, 6, 7, 8, 9, 21, 22, 23, 24, 25] [(0, 31, 33)] [4, 10, 11] [(0, 30, 30)]) σ0 y0 → zpc (fX12_draws_35 n y0 y1 y2 y3) (fun r => (zQ [3, 5, 6, 7, 8, 9, 21, 22, 23, 24, 25] [(0, 31, 33)] [4, 10, 11] [(0, 30, 30)]) σ0 (r)) := by
  intro n
  induction n with
  | zero => intro y0 y1 y2 y3 h; exact zpc_none
  | succ n ih => intro y0 y1 y2 y3 h; exact fk_fX12_draws_35_body ih h
theorem fk_fX12_draws_32 {σ0 : zSt} {σ : zSt} {x1 : Int32} {s0 : Int32} (h : (zQ [3, 5, 6, 7, 8, 9, 21, 22, 23, 24, 25] [(0, 31, 33)] [4, 10, 11] [(0, 30, 30)]) σ0 σ) : zpc (fX12_draws_32 σ x1 s0) (fun r => (zQ [3, 5, 6, 7, 8, 9, 21, 22, 23, 24, 25] [(0, 31, 33)] [4, 10, 11] [(0, 30, 30)]) σ0 (r)) := by
  unfold fX12_draws_32
  exact fk_fX12_draws_35 _ _ _ _ _ h
theorem fk_fX12_draws {σ0 : zSt} {σ : zSt} {x1 : Int32} (h : (zQ [3, 5, 6, 7, 8, 9, 21, 22, 23, 24, 25] [(0, 31, 33)] [4, 10, 11] [(0, 30, 30)]) σ0 σ) : zpc (fX12_draws σ x1) (fun r => (zQ [3, 5, 6, 7, 8, 9, 21, 22, 23, 24, 25] [(0, 31, 33)] [4, 10, 11] [(0, 30, 30)]) σ0 (r)) := by
  unfold fX12_draws
  exact zpc_bi (fk_fX12_mode h) (fun σ34 v35 hσ34 => zpc_if (fun _ => zpc_bi (fk_fX12_reg hσ34) (fun σ38 v39 hσ38 => zpc_ck (fk_fX12_draws_32 hσ38))) (fun _ => zpc_bi (fk_fX12_reg hσ34) (fun σ36 v37 hσ36 => zpc_ck (fk_fX12_draws_32 hσ36))))
theorem fk_fX12_planned_113 {σ0 : zSt} {σ : zSt} (h : (zQ [3, 5, 6, 7, 8, 9, 21, 22, 23, 24, 25] [(0, 31, 33)] [4, 10, 11] [(0, 30, 30)]) σ0 σ) : zpc (fX12_planned_113 σ) (fun r => (zQ [3, 5, 6, 7, 8, 9, 21, 22, 23, 24, 25] [(0, 31, 33)] [4, 10, 11] [(0, 30, 30)]) σ0 (r)) := by
  unfold fX12_planned_113
  exact zpc_some h
theorem fk_fX12_planned_68_body {σ0 : zSt} {k0 : zSt → Option (zSt)} (hk0 : ∀ (y0 : zSt), (zQ [3, 5, 6, 7, 8, 9, 21, 22, 23, 24, 25] [(0, 31, 33)] [4, 10, 11] [(0, 30, 30)]) σ0 y0 → zpc (k0 y0) (fun r => (zQ [3, 5, 6, 7, 8, 9, 21, 22, 23, 24, 25] [(0, 31, 33)] [4, 10, 11] [(0, 30, 30)]) σ0 (r))) {k68 : zSt → Int32 → Option (zSt)} (hk68 : ∀ (y0 : zSt) (y1 : Int32), (zQ [3, 5, 6, 7, 8, 9, 21, 22, 23, 24, 25] [(0, 31, 33)] [4, 10, 11] [(0, 30, 30)]) σ0 y0 → zpc (k68 y0 y1) (fun r => (zQ [3, 5, 6, 7, 8, 9, 21, 22, 23, 24, 25] [(0, 31, 33)] [4, 10, 11] [(0, 30, 30)]) σ0 (r))) {σ : zSt} {x1 : Int32} (h : (zQ [3, 5, 6, 7, 8, 9, 21, 22, 23, 24, 25] [(0, 31, 33)] [4, 10, 11] [(0, 30, 30)]) σ0 σ) : zpc (fX12_planned_68_body k0 k68 σ x1) (fun r => (zQ [3, 5, 6, 7, 8, 9, 21, 22, 23, 24, 25] [(0, 31, 33)] [4, 10, 11] [(0, 30, 30)]) σ0 (r)) := by
  unfold fX12_planned_68_body
  exact zpc_ck (zpc_if (fun _ => hk0 _ h) (fun _ => zpc_ck (zpc_ck (zpc_bs (zQ.wi h rfl) (fun σ1 hσ1 => zpc_bv (fun v2 _ => hk68 _ _ hσ1))))))
theorem fk_fX12_planned_68 {σ0 : zSt} {k0 : zSt → Option (zSt)} (hk0 : ∀ (y0 : zSt), (zQ [3, 5, 6, 7, 8, 9, 21, 22, 23, 24, 25] [(0, 31, 33)] [4, 10, 11] [(0, 30, 30)]) σ0 y0 → zpc (k0 y0) (fun r => (zQ [3, 5, 6, 7, 8, 9, 21, 22, 23, 24, 25] [(0, 31, 33)] [4, 10, 11] [(0, 30, 30)]) σ0 (r))) : ∀ (n : Nat) (y0 : zSt) (y1 : Int32), (zQ [3, 5, 6, 7, 8, 9, 21, 22, 23, 24, 25] [(0, 31, 33)] [4, 10, 11] [(0, 30, 30)]) σ0 y0 → zpc (fX12_planned_68 k0 n y0 y1) (fun r => (zQ [3, 5, 6, 7, 8, 9, 21, 22, 23, 24, 25] [(0, 31, 33)] [4, 10, 11] [(0, 30, 30)]) σ0 (r)) := by
  intro n
  induction n with
  | zero => intro y0 y1 h; exact zpc_none
  | succ n ih => intro y0 y1 h; exact fk_fX12_planned_68_body hk0 ih h
theorem fk_fX12_planned_0_body {σ0 : zSt} {k0 : zSt → Option (zSt)} (hk0 : ∀ (y0 : zSt), (zQ [3, 5, 6, 7, 8, 9, 21, 22, 23, 24, 25] [(0, 31, 33)] [4, 10, 11] [(0, 30, 30)]) σ0 y0 → zpc (k0 y0) (fun r => (zQ [3, 5, 6, 7, 8, 9, 21, 22, 23, 24, 25] [(0, 31, 33)] [4, 10, 11] [(0, 30, 30)]) σ0 (r))) {σ : zSt} (h : (zQ [3, 5, 6, 7, 8, 9, 21, 22, 23, 24, 25] [(0, 31, 33)] [4, 10, 11] [(0, 30, 30)]) σ0 σ) : zpc (fX12_planned_0_body k0 σ) (fun r => (zQ [3, 5, 6, 7, 8, 9, 21, 22, 23, 24, 25] [(0, 31, 33)] [4, 10, 11] [(0, 30, 30)]) σ0 (r)) := by
  unfold fX12_planned_0_body
  exact zpc_ck (zpc_if (fun _ => fk_fX12_planned_113 h) (fun _ => zpc_ck (zpc_ck (zpc_if (fun _ => fk_fX12_planned_113 h) (fun _ => zpc_ck (zpc_ck (zpc_ck (zpc_bs (zQ.wi h rfl) (fun σ3 hσ3 => zpc_ck (zpc_ck (zpc_bs (zQ.wi hσ3 rfl) (fun σ4 hσ4 => fk_fX12_planned_68 hk0 _ _ _ hσ4))))))))))))
theorem fk_fX12_planned_0 {σ0 : zSt} : ∀ (n : Nat) (y0 : zSt), (zQ [3, 5, 6, 7, 8, 9, 21, 22, 23, 24, 25] [(0, 31, 33)] [4, 10, 11] [(0, 30, 30)]) σ0 y0 → zpc (fX12_planned_0 n y0) (fun r => (zQ [3, 5, 6, 7, 8, 9, 21, 22, 23, 24, 25] [(0, 31, 33)] [4, 10, 11] [(0, 30, 30)]) σ0 (r)) := by
  intro n
  induction n with
  | zero => intro y0 h; exact zpc_none
  | succ n ih => intro y0 h; exact fk_fX12_planned_0_body ih h
theorem fk_fX12_planned {σ0 : zSt} {σ : zSt} (h : (zQ [3, 5, 6, 7, 8, 9, 21, 22, 23, 24, 25] [(0, 31, 33)] [4, 10, 11] [(0, 30, 30)]) σ0 σ) : zpc (fX12_planned σ) (fun r => (zQ [3, 5, 6, 7, 8, 9, 21, 22, 23, 24, 25] [(0, 31, 33)] [4, 10, 11] [(0, 30, 30)]) σ0 (r)) := by
  unfold fX12_planned
  exact fk_fX12_planned_0 _ _ h
theorem fk_fX12_ends_195 {σ0 : zSt} {σ : zSt} (h : (zQ [3, 5, 6, 7, 8, 9, 21, 22, 23, 24, 25] [(0, 31, 33)] [4, 10, 11] [(0, 30, 30)]) σ0 σ) : zpc (fX12_ends_195 σ) (fun r => (zQ [3, 5, 6, 7, 8, 9, 21, 22, 23, 24, 25] [(0, 31, 33)] [4, 10, 11] [(0, 30, 30)]) σ0 (r)) := by
  unfold fX12_ends_195
  exact zpc_some h
theorem fk_fX12_ends_169 {σ0 : zSt} {σ : zSt} {x1 : Int32} (h : (zQ [3, 5, 6, 7, 8, 9, 21, 22, 23, 24, 25] [(0, 31, 33)] [4, 10, 11] [(0, 30, 30)]) σ0 σ) : zpc (fX12_ends_169 σ x1) (fun r => (zQ [3, 5, 6, 7, 8, 9, 21, 22, 23, 24, 25] [(0, 31, 33)] [4, 10, 11] [(0, 30, 30)]) σ0 (r)) := by
  unfold fX12_ends_169
  exact zpc_ck (zpc_if (fun _ => zpc_ck (zpc_ck (zpc_bs (zQ.wi h rfl) (fun σ1 hσ1 => fk_fX12_ends_195 hσ1)))) (fun _ => fk_fX12_ends_195 h))
theorem fk_fX12_ends_131 {σ0 : zSt} {σ : zSt} {x1 : Int32} {s0 : Int32} {s1 : Int32} (h : (zQ [3, 5, 6, 7, 8, 9, 21, 22, 23, 24, 25] [(0, 31, 33)] [4, 10, 11] [(0, 30, 30)]) σ0 σ) : zpc (fX12_ends_131 σ x1 s0 s1) (fun r => (zQ [3, 5, 6, 7, 8, 9, 21, 22, 23, 24, 25] [(0, 31, 33)] [4, 10, 11] [(0, 30, 30)]) σ0 (r)) := by
  unfold fX12_ends_131
  exact zpc_if (fun _ => zpc_ck (zpc_bs (zQ.wi h rfl) (fun σ2 hσ2 => zpc_bi (fk_fX12_reg hσ2) (fun σ3 v4 hσ3 => zpc_ck (zpc_bs (zQ.wi hσ3 rfl) (fun σ5 hσ5 => zpc_ck (zpc_ck (zpc_bs (zQ.wl hσ5 rfl) (fun σ6 hσ6 => zpc_bu (fk_fX12_planned hσ6) (fun σ7 hσ7 => fk_fX12_ends_169 hσ7)))))))))) (fun _ => fk_fX12_ends_169 h)
theorem fk_fX12_ends_96 {σ0 : zSt} {σ : zSt} {x1 : Int32} (h : (zQ [3, 5, 6, 7, 8, 9, 21, 22, 23, 24, 25] [(0, 31, 33)] [4, 10, 11] [(0, 30, 30)]) σ0 σ) : zpc (fX12_ends_96 σ x1) (fun r => (zQ [3, 5, 6, 7, 8, 9, 21, 22, 23, 24, 25] [(0, 31, 33)] [4, 10, 11] [(0, 30, 30)]) σ0 (r)) := by
  unfold fX12_ends_96
  exact zpc_ck (zpc_ck (zpc_bs (zQ.wi h rfl) (fun σ8 hσ8 => zpc_ck (zpc_if (fun _ => fk_fX12_ends_131 hσ8) (fun _ => fk_fX12_ends_131 hσ8)))))
theorem fk_fX12_ends_27 {σ0 : zSt} {σ : zSt} {x1 : Int32} (h : (zQ [3, 5, 6, 7, 8, 9, 21, 22, 23, 24, 25] [(0, 31, 33)] [4, 10, 11] [(0, 30, 30)]) σ0 σ) : zpc (fX12_ends_27 σ x1) (fun r => (zQ [3, 5, 6, 7, 8, 9, 21, 22, 23, 24, 25] [(0, 31, 33)] [4, 10, 11] [(0, 30, 30)]) σ0 (r)) := by
  unfold fX12_ends_27
  exact zpc_ck (zpc_if (fun _ => zpc_bi (fk_fX12_reg h) (fun σ9 v10 hσ9 => zpc_ck (zpc_bs (zQ.wi hσ9 rfl) (fun σ11 hσ11 => fk_fX12_ends_96 hσ11)))) (fun _ => zpc_ck (zpc_ck (zpc_bs (zQ.wi h rfl) (fun σ12 hσ12 => zpc_ck (zpc_if (fun _ => fk_fX12_ends_96 hσ12) (fun _ => zpc_bi (fk_fX12_reg hσ12) (fun σ13 v14 hσ13 => zpc_ck (zpc_bs (zQ.wi hσ13 rfl) (fun σ15 hσ15 => zpc_ck (zpc_bs (zQ.wi hσ15 rfl) (fun σ16 hσ16 => fk_fX12_ends_96 hσ16))))))))))))
theorem fk_fX12_ends {σ0 : zSt} {σ : zSt} (h : (zQ [3, 5, 6, 7, 8, 9, 21, 22, 23, 24, 25] [(0, 31, 33)] [4, 10, 11] [(0, 30, 30)]) σ0 σ) : zpc (fX12_ends σ) (fun r => (zQ [3, 5, 6, 7, 8, 9, 21, 22, 23, 24, 25] [(0, 31, 33)] [4, 10, 11] [(0, 30, 30)]) σ0 (r)) := by
  unfold fX12_ends
  exact zpc_bi (fk_fX12_height h) (fun σ17 v18 hσ17 => zpc_ck (zpc_if (fun _ => fk_fX12_ends_27 hσ17) (fun _ => zpc_ck (zpc_bu (fk_fX12_draws hσ17) (fun σ19 hσ19 => fk_fX12_ends_27 hσ19)))))
theorem fk_fX12_loudness {σ0 : zSt} {σ : zSt} {x0 : Int32} (h : (zQ [3, 5, 6, 7, 8, 9, 21, 22, 23, 24, 25] [(0, 31, 33)] [4, 10, 11] [(0, 30, 30)]) σ0 σ) : zpc (fX12_loudness σ x0) (fun r => (zQ [3, 5, 6, 7, 8, 9, 21, 22, 23, 24, 25] [(0, 31, 33)] [4, 10, 11] [(0, 30, 30)]) σ0 (r.1)) := by
  unfold fX12_loudness
  exact zpc_if (fun _ => zpc_some h) (fun _ => zpc_if (fun _ => zpc_some h) (fun _ => zpc_if (fun _ => zpc_some h) (fun _ => zpc_if (fun _ => zpc_some h) (fun _ => zpc_if (fun _ => zpc_some h) (fun _ => zpc_if (fun _ => zpc_some h) (fun _ => zpc_if (fun _ => zpc_some h) (fun _ => zpc_if (fun _ => zpc_some h) (fun _ => zpc_if (fun _ => zpc_some h) (fun _ => zpc_if (fun _ => zpc_some h) (fun _ => zpc_if (fun _ => zpc_some h) (fun _ => zpc_if (fun _ => zpc_some h) (fun _ => zpc_if (fun _ => zpc_some h) (fun _ => zpc_if (fun _ => zpc_some h) (fun _ => zpc_if (fun _ => zpc_some h) (fun _ => zpc_some h)))))))))))))))
theorem fk_fX12_sample_102 {σ0 : zSt} {k2 : zSt → Int32 → Option (zSt)} (hk2 : ∀ (y0 : zSt) (y1 : Int32), (zQ [3, 5, 6, 7, 8, 9, 21, 22, 23, 24, 25] [(0, 31, 33)] [4, 10, 11] [(0, 30, 30)]) σ0 y0 → zr 0 3 y1 → zpc (k2 y0 y1) (fun r => (zQ [3, 5, 6, 7, 8, 9, 21, 22, 23, 24, 25] [(0, 31, 33)] [4, 10, 11] [(0, 30, 30)]) σ0 (r))) {σ : zSt} {x1 : Int32} (h : (zQ [3, 5, 6, 7, 8, 9, 21, 22, 23, 24, 25] [(0, 31, 33)] [4, 10, 11] [(0, 30, 30)]) σ0 σ) (qx1 : zr 0 2 x1) : zpc (fX12_sample_102 k2 σ x1) (fun r => (zQ [3, 5, 6, 7, 8, 9, 21, 22, 23, 24, 25] [(0, 31, 33)] [4, 10, 11] [(0, 30, 30)]) σ0 (r)) := by
  unfold fX12_sample_102
  exact zpc_bv (fun v1 ev1 => hk2 _ _ h (zr_w (show zr 1 3 v1 by rw [ev1]; exact (zr_add (lo := 1) (hi := 3) qx1 (zr_c (x := 1) (lo := 1) (hi := 1) (by decide)) (by decide))) (by decide)))
theorem fk_fX12_sample_101 {σ0 : zSt} {k2 : zSt → Int32 → Option (zSt)} (hk2 : ∀ (y0 : zSt) (y1 : Int32), (zQ [3, 5, 6, 7, 8, 9, 21, 22, 23, 24, 25] [(0, 31, 33)] [4, 10, 11] [(0, 30, 30)]) σ0 y0 → zr 0 3 y1 → zpc (k2 y0 y1) (fun r => (zQ [3, 5, 6, 7, 8, 9, 21, 22, 23, 24, 25] [(0, 31, 33)] [4, 10, 11] [(0, 30, 30)]) σ0 (r))) {σ : zSt} {x1 : Int32} {s0 : Int32} {s1 : Int32} (h : (zQ [3, 5, 6, 7, 8, 9, 21, 22, 23, 24, 25] [(0, 31, 33)] [4, 10, 11] [(0, 30, 30)]) σ0 σ) (qx1 : zr 0 2 x1) (qs1 : zr 69 86 s1) : zpc (fX12_sample_101 k2 σ x1 s0 s1) (fun r => (zQ [3, 5, 6, 7, 8, 9, 21, 22, 23, 24, 25] [(0, 31, 33)] [4, 10, 11] [(0, 30, 30)]) σ0 (r)) := by
  unfold fX12_sample_101
  exact zpc_ck (zpc_bs (zQ.wi h rfl) (fun σ2 hσ2 => fk_fX12_sample_102 hk2 hσ2 qx1))
theorem fk_fX12_sample_32 {σ0 : zSt} {k2 : zSt → Int32 → Option (zSt)} (hk2 : ∀ (y0 : zSt) (y1 : Int32), (zQ [3, 5, 6, 7, 8, 9, 21, 22, 23, 24, 25] [(0, 31, 33)] [4, 10, 11] [(0, 30, 30)]) σ0 y0 → zr 0 3 y1 → zpc (k2 y0 y1) (fun r => (zQ [3, 5, 6, 7, 8, 9, 21, 22, 23, 24, 25] [(0, 31, 33)] [4, 10, 11] [(0, 30, 30)]) σ0 (r))) {σ : zSt} {x1 : Int32} (h : (zQ [3, 5, 6, 7, 8, 9, 21, 22, 23, 24, 25] [(0, 31, 33)] [4, 10, 11] [(0, 30, 30)]) σ0 σ) (qx1 : zr 0 2 x1) : zpc (fX12_sample_32 k2 σ x1) (fun r => (zQ [3, 5, 6, 7, 8, 9, 21, 22, 23, 24, 25] [(0, 31, 33)] [4, 10, 11] [(0, 30, 30)]) σ0 (r)) := by
  unfold fX12_sample_32
  exact zpc_ck (zpc_if (fun _ => zpc_ck (zpc_ck (zpc_bs (zQ.wi h rfl) (fun σ3 hσ3 => zpc_ck (zpc_if (fun _ => zpc_ck (fk_fX12_sample_101 hk2 hσ3 qx1 (zr_w (zr_add (lo := 75) (hi := 77) (zr_c (x := 75) (lo := 75) (hi := 75) (by decide)) qx1 (by decide)) (by decide)))) (fun _ => fk_fX12_sample_101 hk2 hσ3 qx1 (zr_w (zr_add (lo := 75) (hi := 77) (zr_c (x := 75) (lo := 75) (hi := 75) (by decide)) qx1 (by decide)) (by decide)))))))) (fun _ => fk_fX12_sample_102 hk2 h qx1))
theorem fk_fX12_sample_407 {σ0 : zSt} {k275 : zSt → Int64 → Int64 → Int32 → Option (zSt)} (hk275 : ∀ (y0 : zSt) (y1 : Int64) (y2 : Int64) (y3 : Int32), (zQ [3, 5, 6, 7, 8, 9, 21, 22, 23, 24, 25] [(0, 31, 33)] [4, 10, 11] [(0, 30, 30)]) σ0 y0 → zpc (k275 y0 y1 y2 y3) (fun r => (zQ [3, 5, 6, 7, 8, 9, 21, 22, 23, 24, 25] [(0, 31, 33)] [4, 10, 11] [(0, 30, 30)]) σ0 (r))) {σ : zSt} {x1 : Int64} {x3 : Int64} {x5 : Int32} (h : (zQ [3, 5, 6, 7, 8, 9, 21, 22, 23, 24, 25] [(0, 31, 33)] [4, 10, 11] [(0, 30, 30)]) σ0 σ) : zpc (fX12_sample_407 k275 σ x1 x3 x5) (fun r => (zQ [3, 5, 6, 7, 8, 9, 21, 22, 23, 24, 25] [(0, 31, 33)] [4, 10, 11] [(0, 30, 30)]) σ0 (r)) := by
  unfold fX12_sample_407
  exact zpc_bv (fun v4 _ => hk275 _ _ _ _ h)
theorem fk_fX12_sample_369 {σ0 : zSt} {k275 : zSt → Int64 → Int64 → Int32 → Option (zSt)} (hk275 : ∀ (y0 : zSt) (y1 : Int64) (y2 : Int64) (y3 : Int32), (zQ [3, 5, 6, 7, 8, 9, 21, 22, 23, 24, 25] [(0, 31, 33)] [4, 10, 11] [(0, 30, 30)]) σ0 y0 → zpc (k275 y0 y1 y2 y3) (fun r => (zQ [3, 5, 6, 7, 8, 9, 21, 22, 23, 24, 25] [(0, 31, 33)] [4, 10, 11] [(0, 30, 30)]) σ0 (r))) {σ : zSt} {x1 : Int64} {x3 : Int64} {x5 : Int32} {x6 : Int32} (h : (zQ [3, 5, 6, 7, 8, 9, 21, 22, 23, 24, 25] [(0, 31, 33)] [4, 10, 11] [(0, 30, 30)]) σ0 σ) : zpc (fX12_sample_369 k275 σ x1 x3 x5 x6) (fun r => (zQ [3, 5, 6, 7, 8, 9, 21, 22, 23, 24, 25] [(0, 31, 33)] [4, 10, 11] [(0, 30, 30)]) σ0 (r)) := by
  unfold fX12_sample_369
  exact zpc_if (fun _ => fk_fX12_sample_407 hk275 h) (fun _ => zpc_ck (zpc_if (fun _ => zpc_ck (zpc_bi (fk_fX12_loudness h) (fun σ5 v6 hσ5 => zpc_bv (fun v7 _ => fk_fX12_sample_407 hk275 hσ5)))) (fun _ => fk_fX12_sample_407 hk275 h)))
theorem fk_fX12_sample_327 {σ0 : zSt} {k275 : zSt → Int64 → Int64 → Int32 → Option (zSt)} (hk275 : ∀ (y0 : zSt) (y1 : Int64) (y2 : Int64) (y3 : Int32), (zQ [3, 5, 6, 7, 8, 9, 21, 22, 23, 24, 25] [(0, 31, 33)] [4, 10, 11] [(0, 30, 30)]) σ0 y0 → zpc (k275 y0 y1 y2 y3) (fun r => (zQ [3, 5, 6, 7, 8, 9, 21, 22, 23, 24, 25] [(0, 31, 33)] [4, 10, 11] [(0, 30, 30)]) σ0 (r))) {σ : zSt} {x1 : Int64} {x3 : Int64} {x5 : Int32} {s0 : Int32} (h : (zQ [3, 5, 6, 7, 8, 9, 21, 22, 23, 24, 25] [(0, 31, 33)] [4, 10, 11] [(0, 30, 30)]) σ0 σ) : zpc (fX12_sample_327 k275 σ x1 x3 x5 s0) (fun r => (zQ [3, 5, 6, 7, 8, 9, 21, 22, 23, 24, 25] [(0, 31, 33)] [4, 10, 11] [(0, 30, 30)]) σ0 (r)) := by
  unfold fX12_sample_327
  exact zpc_if (fun _ => fk_fX12_sample_369 hk275 h) (fun _ => zpc_ck (zpc_if (fun _ => zpc_ck (zpc_bi (fk_fX12_loudness h) (fun σ8 v9 hσ8 => zpc_bv (fun v10 _ => fk_fX12_sample_369 hk275 hσ8)))) (fun _ => fk_fX12_sample_369 hk275 h)))
theorem fk_fX12_sample_508 {σ0 : zSt} {σ : zSt} {x1 : Int64} {x3 : Int64} (h : (zQ [3, 5, 6, 7, 8, 9, 21, 22, 23, 24, 25] [(0, 31, 33)] [4, 10, 11] [(0, 30, 30)]) σ0 σ) : zpc (fX12_sample_508 σ x1 x3) (fun r => (zQ [3, 5, 6, 7, 8, 9, 21, 22, 23, 24, 25] [(0, 31, 33)] [4, 10, 11] [(0, 30, 30)]) σ0 (r)) := by
  unfold fX12_sample_508
  exact zpc_ck (zpc_ck (zpc_ck (zpc_ck (zpc_bs (zQ.wl h rfl) (fun σ11 hσ11 => zpc_some hσ11)))))
theorem fk_fX12_sample_275_body {σ0 : zSt} {k275 : zSt → Int64 → Int64 → Int32 → Option (zSt)} (hk275 : ∀ (y0 : zSt) (y1 : Int64) (y2 : Int64) (y3 : Int32), (zQ [3, 5, 6, 7, 8, 9, 21, 22, 23, 24, 25] [(0, 31, 33)] [4, 10, 11] [(0, 30, 30)]) σ0 y0 → zpc (k275 y0 y1 y2 y3) (fun r => (zQ [3, 5, 6, 7, 8, 9, 21, 22, 23, 24, 25] [(0, 31, 33)] [4, 10, 11] [(0, 30, 30)]) σ0 (r))) {σ : zSt} {x1 : Int64} {x3 : Int64} {x5 : Int32} (h : (zQ [3, 5, 6, 7, 8, 9, 21, 22, 23, 24, 25] [(0, 31, 33)] [4, 10, 11] [(0, 30, 30)]) σ0 σ) : zpc (fX12_sample_275_body k275 σ x1 x3 x5) (fun r => (zQ [3, 5, 6, 7, 8, 9, 21, 22, 23, 24, 25] [(0, 31, 33)] [4, 10, 11] [(0, 30, 30)]) σ0 (r)) := by
  unfold fX12_sample_275_body
  exact zpc_if (fun _ => zpc_ck (zpc_ck (zpc_bs (zQ.wl h rfl) (fun σ12 hσ12 => zpc_ck (zpc_ck (zpc_bs (zQ.wi hσ12 rfl) (fun σ13 hσ13 => zpc_ck (zpc_ck (zpc_bs (zQ.wi hσ13 rfl) (fun σ14 hσ14 => zpc_ck (zpc_ck (zpc_bs (zQ.wi hσ14 rfl) (fun σ15 hσ15 => zpc_ck (zpc_if (fun _ => zpc_ck (zpc_ck (zpc_ck (zpc_bs (zQ.wi hσ15 rfl) (fun σ17 hσ17 => fk_fX12_sample_508 hσ17))))) (fun _ => zpc_ck (zpc_ck (zpc_bs (zQ.wi hσ15 rfl) (fun σ16 hσ16 => fk_fX12_sample_508 hσ16)))))))))))))))))) (fun _ => zpc_if (fun _ => zpc_ck (zpc_if (fun _ => fk_fX12_sample_327 hk275 h) (fun _ => fk_fX12_sample_327 hk275 h))) (fun _ => zpc_ck (zpc_if (fun _ => fk_fX12_sample_327 hk275 h) (fun _ => fk_fX12_sample_327 hk275 h))))
theorem fk_fX12_sample_275 {σ0 : zSt} : ∀ (n : Nat) (y0 : zSt) (y1 : Int64) (y2 : Int64) (y3 : Int32), (zQ [3, 5, 6, 7, 8, 9, 21, 22, 23, 24, 25] [(0, 31, 33)] [4, 10, 11] [(0, 30, 30)]) σ0 y0 → zpc (fX12_sample_275 n y0 y1 y2 y3) (fun r => (zQ [3, 5, 6, 7, 8, 9, 21, 22, 23, 24, 25] [(0, 31, 33)] [4, 10, 11] [(0, 30, 30)]) σ0 (r)) := by
  intro n
  induction n with
  | zero => intro y0 y1 y2 y3 h; exact zpc_none
  | succ n ih => intro y0 y1 y2 y3 h; exact fk_fX12_sample_275_body ih h
theorem fk_fX12_sample_268 {σ0 : zSt} {σ : zSt} (h : (zQ [3, 5, 6, 7, 8, 9, 21, 22, 23, 24, 25] [(0, 31, 33)] [4, 10, 11] [(0, 30, 30)]) σ0 σ) : zpc (fX12_sample_268 σ) (fun r => (zQ [3, 5, 6, 7, 8, 9, 21, 22, 23, 24, 25] [(0, 31, 33)] [4, 10, 11] [(0, 30, 30)]) σ0 (r)) := by
  unfold fX12_sample_268
  exact fk_fX12_sample_275 _ _ _ _ _ h
theorem fk_fX12_sample_246 {σ0 : zSt} {σ : zSt} {s0 : Int32} (h : (zQ [3, 5, 6, 7, 8, 9, 21, 22, 23, 24, 25] [(0, 31, 33)] [4, 10, 11] [(0, 30, 30)]) σ0 σ) : zpc (fX12_sample_246 σ s0) (fun r => (zQ [3, 5, 6, 7, 8, 9, 21, 22, 23, 24, 25] [(0, 31, 33)] [4, 10, 11] [(0, 30, 30)]) σ0 (r)) := by
  unfold fX12_sample_246
  exact zpc_ck (zpc_ck (zpc_bs (zQ.wi h rfl) (fun σ18 hσ18 => fk_fX12_sample_268 hσ18)))
theorem fk_fX12_sample_174 {σ0 : zSt} {σ : zSt} {s0 : Int32} {s1 : Int32} (h : (zQ [3, 5, 6, 7, 8, 9, 21, 22, 23, 24, 25] [(0, 31, 33)] [4, 10, 11] [(0, 30, 30)]) σ0 σ) (qs1 : zr 69 86 s1) : zpc (fX12_sample_174 σ s0 s1) (fun r => (zQ [3, 5, 6, 7, 8, 9, 21, 22, 23, 24, 25] [(0, 31, 33)] [4, 10, 11] [(0, 30, 30)]) σ0 (r)) := by
  unfold fX12_sample_174
  exact zpc_ck (zpc_bs (zQ.wi h rfl) (fun σ19 hσ19 => zpc_ck (zpc_ck (zpc_bs (zQ.wi hσ19 rfl) (fun σ20 hσ20 => zpc_ck (zpc_if (fun _ => zpc_ck (zpc_if (fun _ => zpc_ck (zpc_ck (fk_fX12_sample_246 hσ20))) (fun _ => zpc_ck (fk_fX12_sample_246 hσ20)))) (fun _ => fk_fX12_sample_268 hσ20)))))))
theorem fk_fX12_sample_129 {σ0 : zSt} {σ : zSt} (h : (zQ [3, 5, 6, 7, 8, 9, 21, 22, 23, 24, 25] [(0, 31, 33)] [4, 10, 11] [(0, 30, 30)]) σ0 σ) : zpc (fX12_sample_129 σ) (fun r => (zQ [3, 5, 6, 7, 8, 9, 21, 22, 23, 24, 25] [(0, 31, 33)] [4, 10, 11] [(0, 30, 30)]) σ0 (r)) := by
  unfold fX12_sample_129
  exact zpc_ck (zpc_if (fun _ => zpc_ck (zpc_ck (zpc_bv (fun v21 _ => zpc_if (fun _ => zpc_ck (fk_fX12_sample_174 h (zr_w (zr_c (x := 83) (lo := 83) (hi := 83) (by decide)) (by decide)))) (fun _ => fk_fX12_sample_174 h (zr_w (zr_c (x := 83) (lo := 83) (hi := 83) (by decide)) (by decide))))))) (fun _ => fk_fX12_sample_268 h))
theorem fk_fX12_sample_2_body {σ0 : zSt} {k2 : zSt → Int32 → Option (zSt)} (hk2 : ∀ (y0 : zSt) (y1 : Int32), (zQ [3, 5, 6, 7, 8, 9, 21, 22, 23, 24, 25] [(0, 31, 33)] [4, 10, 11] [(0, 30, 30)]) σ0 y0 → zr 0 3 y1 → zpc (k2 y0 y1) (fun r => (zQ [3, 5, 6, 7, 8, 9, 21, 22, 23, 24, 25] [(0, 31, 33)] [4, 10, 11] [(0, 30, 30)]) σ0 (r))) {σ : zSt} {x1 : Int32} (h : (zQ [3, 5, 6, 7, 8, 9, 21, 22, 23, 24, 25] [(0, 31, 33)] [4, 10, 11] [(0, 30, 30)]) σ0 σ) (qx1 : zr 0 3 x1) : zpc (fX12_sample_2_body k2 σ x1) (fun r => (zQ [3, 5, 6, 7, 8, 9, 21, 22, 23, 24, 25] [(0, 31, 33)] [4, 10, 11] [(0, 30, 30)]) σ0 (r)) := by
  unfold fX12_sample_2_body
  exact zpc_if (fun g1 => zpc_ck (zpc_if (fun _ => fk_fX12_sample_129 h) (fun _ => zpc_ck (zpc_ck (zpc_bs (zQ.wi h rfl) (fun σ22 hσ22 => fk_fX12_sample_129 hσ22)))))) (fun g1 => zpc_ck (zpc_if (fun _ => fk_fX12_sample_32 hk2 h (zr_nge (k := 3) (m := 2) qx1 rfl g1 (by decide))) (fun _ => zpc_bv (fun v23 ev23 => zpc_ck (zpc_ck (zpc_bs (zQ.wi h rfl) (fun σ24 hσ24 => fk_fX12_sample_32 hk2 hσ24 (zr_nge (k := 3) (m := 2) qx1 rfl g1 (by decide)))))))))
theorem fk_fX12_sample_2 {σ0 : zSt} : ∀ (n : Nat) (y0 : zSt) (y1 : Int32), (zQ [3, 5, 6, 7, 8, 9, 21, 22, 23, 24, 25] [(0, 31, 33)] [4, 10, 11] [(0, 30, 30)]) σ0 y0 → zr 0 3 y1 → zpc (fX12_sample_2 n y0 y1) (fun r => (zQ [3, 5, 6, 7, 8, 9, 21, 22, 23, 24, 25] [(0, 31, 33)] [4, 10, 11] [(0, 30, 30)]) σ0 (r)) := by
  intro n
  induction n with
  | zero => intro y0 y1 h q1; exact zpc_none
  | succ n ih => intro y0 y1 h q1; exact fk_fX12_sample_2_body ih h q1
theorem fk_fX12_sample {σ0 : zSt} {σ : zSt} (h : (zQ [3, 5, 6, 7, 8, 9, 21, 22, 23, 24, 25] [(0, 31, 33)] [4, 10, 11] [(0, 30, 30)]) σ0 σ) : zpc (fX12_sample σ) (fun r => (zQ [3, 5, 6, 7, 8, 9, 21, 22, 23, 24, 25] [(0, 31, 33)] [4, 10, 11] [(0, 30, 30)]) σ0 (r)) := by
  unfold fX12_sample
  exact fk_fX12_sample_2 _ _ _ h (zr_w (zr_c (x := 0) (lo := 0) (hi := 0) (by decide)) (by decide))
theorem fk_fX12_wreg {σ0 : zSt} {σ : zSt} {x1 : Int32} (h : (zQ [3, 5, 6, 7, 8, 9, 21, 22, 23, 24, 25] [(0, 31, 33)] [4, 10, 11] [(0, 30, 30)]) σ0 σ) : zpc (fX12_wreg σ x1) (fun r => (zQ [3, 5, 6, 7, 8, 9, 21, 22, 23, 24, 25] [(0, 31, 33)] [4, 10, 11] [(0, 30, 30)]) σ0 (r.1)) := by
  unfold fX12_wreg
  exact zpc_ck (zpc_some h)
theorem fk_fX12_isRhythm_22 {σ0 : zSt} {σ : zSt} {s0 : Int32} (h : (zQ [3, 5, 6, 7, 8, 9, 21, 22, 23, 24, 25] [(0, 31, 33)] [4, 10, 11] [(0, 30, 30)]) σ0 σ) : zpc (fX12_isRhythm_22 σ s0) (fun r => (zQ [3, 5, 6, 7, 8, 9, 21, 22, 23, 24, 25] [(0, 31, 33)] [4, 10, 11] [(0, 30, 30)]) σ0 (r.1)) := by
  unfold fX12_isRhythm_22
  exact zpc_ck (zpc_some h)
theorem fk_fX12_isRhythm_21 {σ0 : zSt} {σ : zSt} (h : (zQ [3, 5, 6, 7, 8, 9, 21, 22, 23, 24, 25] [(0, 31, 33)] [4, 10, 11] [(0, 30, 30)]) σ0 σ) : zpc (fX12_isRhythm_21 σ) (fun r => (zQ [3, 5, 6, 7, 8, 9, 21, 22, 23, 24, 25] [(0, 31, 33)] [4, 10, 11] [(0, 30, 30)]) σ0 (r.1)) := by
  unfold fX12_isRhythm_21
  exact fk_fX12_isRhythm_22 h
theorem fk_fX12_isRhythm {σ0 : zSt} {σ : zSt} {x1 : Int32} (h : (zQ [3, 5, 6, 7, 8, 9, 21, 22, 23, 24, 25] [(0, 31, 33)] [4, 10, 11] [(0, 30, 30)]) σ0 σ) : zpc (fX12_isRhythm σ x1) (fun r => (zQ [3, 5, 6, 7, 8, 9, 21, 22, 23, 24, 25] [(0, 31, 33)] [4, 10, 11] [(0, 30, 30)]) σ0 (r.1)) := by
  unfold fX12_isRhythm
  exact zpc_if (fun _ => fk_fX12_isRhythm_21 h) (fun _ => zpc_bi (fk_fX12_wreg h) (fun σ1 v2 hσ1 => zpc_if (fun _ => fk_fX12_isRhythm_21 hσ1) (fun _ => fk_fX12_isRhythm_22 hσ1)))
theorem fk_fX12_isOn_60 {σ0 : zSt} {σ : zSt} {x3 : Int32} {s0 : Int32} (h : (zQ [3, 5, 6, 7, 8, 9, 21, 22, 23, 24, 25] [(0, 31, 33)] [4, 10, 11] [(0, 30, 30)]) σ0 σ) : zpc (fX12_isOn_60 σ x3 s0) (fun r => (zQ [3, 5, 6, 7, 8, 9, 21, 22, 23, 24, 25] [(0, 31, 33)] [4, 10, 11] [(0, 30, 30)]) σ0 (r.1)) := by
  unfold fX12_isOn_60
  exact zpc_bi (fk_fX12_wreg h) (fun σ1 v2 hσ1 => zpc_some hσ1)
theorem fk_fX12_isOn {σ0 : zSt} {σ : zSt} {x1 : Int32} {x2 : Int32} (h : (zQ [3, 5, 6, 7, 8, 9, 21, 22, 23, 24, 25] [(0, 31, 33)] [4, 10, 11] [(0, 30, 30)]) σ0 σ) : zpc (fX12_isOn σ x1 x2) (fun r => (zQ [3, 5, 6, 7, 8, 9, 21, 22, 23, 24, 25] [(0, 31, 33)] [4, 10, 11] [(0, 30, 30)]) σ0 (r.1)) := by
  unfold fX12_isOn
  exact zpc_bi (fk_fX12_wreg h) (fun σ3 v4 hσ3 => zpc_bv (fun v5 _ => zpc_bi (fk_fX12_isRhythm hσ3) (fun σ6 v7 hσ6 => zpc_if (fun _ => zpc_some hσ6) (fun _ => zpc_if (fun _ => fk_fX12_isOn_60 hσ6) (fun _ => zpc_if (fun _ => zpc_if (fun _ => fk_fX12_isOn_60 hσ6) (fun _ => fk_fX12_isOn_60 hσ6)) (fun _ => zpc_if (fun _ => fk_fX12_isOn_60 hσ6) (fun _ => fk_fX12_isOn_60 hσ6)))))))
theorem fk_fX12_digit_20 {σ0 : zSt} {σ : zSt} {s0 : Int32} (h : (zQ [3, 5, 6, 7, 8, 9, 21, 22, 23, 24, 25] [(0, 31, 33)] [4, 10, 11] [(0, 30, 30)]) σ0 σ) : zpc (fX12_digit_20 σ s0) (fun r => (zQ [3, 5, 6, 7, 8, 9, 21, 22, 23, 24, 25] [(0, 31, 33)] [4, 10, 11] [(0, 30, 30)]) σ0 (r.1)) := by
  unfold fX12_digit_20
  exact zpc_some h
theorem fk_fX12_digit {σ0 : zSt} {σ : zSt} {x0 : Int32} (h : (zQ [3, 5, 6, 7, 8, 9, 21, 22, 23, 24, 25] [(0, 31, 33)] [4, 10, 11] [(0, 30, 30)]) σ0 σ) : zpc (fX12_digit σ x0) (fun r => (zQ [3, 5, 6, 7, 8, 9, 21, 22, 23, 24, 25] [(0, 31, 33)] [4, 10, 11] [(0, 30, 30)]) σ0 (r.1)) := by
  unfold fX12_digit
  exact zpc_if (fun _ => fk_fX12_digit_20 h) (fun _ => fk_fX12_digit_20 h)
theorem fk_fX12_patchByte_25 {σ0 : zSt} {σ : zSt} {x2 : Int32} {s0 : Int32} (h : (zQ [3, 5, 6, 7, 8, 9, 21, 22, 23, 24, 25] [(0, 31, 33)] [4, 10, 11] [(0, 30, 30)]) σ0 σ) : zpc (fX12_patchByte_25 σ x2 s0) (fun r => (zQ [3, 5, 6, 7, 8, 9, 21, 22, 23, 24, 25] [(0, 31, 33)] [4, 10, 11] [(0, 30, 30)]) σ0 (r.1)) := by
  unfold fX12_patchByte_25
  exact zpc_if (fun _ => zpc_bi (fk_fX12_wreg h) (fun σ6 v7 hσ6 => zpc_some hσ6)) (fun _ => zpc_bv (fun v1 _ => zpc_ck (zpc_ck (zpc_bi (fk_fX12_digit h) (fun σ2 v3 hσ2 => zpc_ck (zpc_ck (zpc_bi (fk_fX12_digit hσ2) (fun σ4 v5 hσ4 => zpc_some hσ4))))))))
theorem fk_fX12_patchByte {σ0 : zSt} {σ : zSt} {x1 : Int32} {x2 : Int32} (h : (zQ [3, 5, 6, 7, 8, 9, 21, 22, 23, 24, 25] [(0, 31, 33)] [4, 10, 11] [(0, 30, 30)]) σ0 σ) : zpc (fX12_patchByte σ x1 x2) (fun r => (zQ [3, 5, 6, 7, 8, 9, 21, 22, 23, 24, 25] [(0, 31, 33)] [4, 10, 11] [(0, 30, 30)]) σ0 (r.1)) := by
  unfold fX12_patchByte
  exact zpc_bi (fk_fX12_isRhythm h) (fun σ8 v9 hσ8 => zpc_if (fun _ => zpc_bi (fk_fX12_wreg hσ8) (fun σ10 v11 hσ10 => fk_fX12_patchByte_25 hσ10)) (fun _ => fk_fX12_patchByte_25 hσ8))
theorem fk_fX12_rate_140 {σ0 : zSt} {σ : zSt} {s0 : Int32} (h : (zQ [3, 5, 6, 7, 8, 9, 21, 22, 23, 24, 25] [(0, 31, 33)] [4, 10, 11] [(0, 30, 30)]) σ0 σ) : zpc (fX12_rate_140 σ s0) (fun r => (zQ [3, 5, 6, 7, 8, 9, 21, 22, 23, 24, 25] [(0, 31, 33)] [4, 10, 11] [(0, 30, 30)]) σ0 (r.1)) := by
  unfold fX12_rate_140
  exact zpc_some h
theorem fk_fX12_rate_99 {σ0 : zSt} {σ : zSt} {s0 : Int32} (h : (zQ [3, 5, 6, 7, 8, 9, 21, 22, 23, 24, 25] [(0, 31, 33)] [4, 10, 11] [(0, 30, 30)]) σ0 σ) : zpc (fX12_rate_99 σ s0) (fun r => (zQ [3, 5, 6, 7, 8, 9, 21, 22, 23, 24, 25] [(0, 31, 33)] [4, 10, 11] [(0, 30, 30)]) σ0 (r.1)) := by
  unfold fX12_rate_99
  exact zpc_some h
theorem fk_fX12_rate_17 {σ0 : zSt} {σ : zSt} {x1 : Int32} {x2 : Int32} {x3 : Int32} {s0 : Int32} (h : (zQ [3, 5, 6, 7, 8, 9, 21, 22, 23, 24, 25] [(0, 31, 33)] [4, 10, 11] [(0, 30, 30)]) σ0 σ) : zpc (fX12_rate_17 σ x1 x2 x3 s0) (fun r => (zQ [3, 5, 6, 7, 8, 9, 21, 22, 23, 24, 25] [(0, 31, 33)] [4, 10, 11] [(0, 30, 30)]) σ0 (r.1)) := by
  unfold fX12_rate_17
  exact zpc_if (fun _ => zpc_some h) (fun _ => zpc_if (fun _ => zpc_bi (fk_fX12_patchByte h) (fun σ1 v2 hσ1 => zpc_some hσ1)) (fun _ => zpc_if (fun _ => zpc_bi (fk_fX12_patchByte h) (fun σ3 v4 hσ3 => zpc_some hσ3)) (fun _ => zpc_if (fun _ => zpc_if (fun _ => zpc_bi (fk_fX12_patchByte h) (fun σ5 v6 hσ5 => fk_fX12_rate_99 hσ5)) (fun _ => fk_fX12_rate_99 h)) (fun _ => zpc_bi (fk_fX12_wreg h) (fun σ7 v8 hσ7 => zpc_if (fun _ => zpc_if (fun _ => fk_fX12_rate_140 hσ7) (fun _ => zpc_bi (fk_fX12_patchByte hσ7) (fun σ9 v10 hσ9 => fk_fX12_rate_140 hσ9))) (fun _ => fk_fX12_rate_140 hσ7))))))
theorem fk_fX12_rate {σ0 : zSt} {σ : zSt} {x1 : Int32} {x2 : Int32} {x3 : Int32} (h : (zQ [3, 5, 6, 7, 8, 9, 21, 22, 23, 24, 25] [(0, 31, 33)] [4, 10, 11] [(0, 30, 30)]) σ0 σ) : zpc (fX12_rate σ x1 x2 x3) (fun r => (zQ [3, 5, 6, 7, 8, 9, 21, 22, 23, 24, 25] [(0, 31, 33)] [4, 10, 11] [(0, 30, 30)]) σ0 (r.1)) := by
  unfold fX12_rate
  exact zpc_bi (fk_fX12_patchByte h) (fun σ11 v12 hσ11 => zpc_if (fun _ => fk_fX12_rate_17 hσ11) (fun _ => fk_fX12_rate_17 hσ11))
theorem fk_fX12_block {σ0 : zSt} {σ : zSt} {x1 : Int32} (h : (zQ [3, 5, 6, 7, 8, 9, 21, 22, 23, 24, 25] [(0, 31, 33)] [4, 10, 11] [(0, 30, 30)]) σ0 σ) : zpc (fX12_block σ x1) (fun r => (zQ [3, 5, 6, 7, 8, 9, 21, 22, 23, 24, 25] [(0, 31, 33)] [4, 10, 11] [(0, 30, 30)]) σ0 (r.1)) := by
  unfold fX12_block
  exact zpc_bi (fk_fX12_wreg h) (fun σ1 v2 hσ1 => zpc_some hσ1)
theorem fk_fX12_f {σ0 : zSt} {σ : zSt} {x1 : Int32} (h : (zQ [3, 5, 6, 7, 8, 9, 21, 22, 23, 24, 25] [(0, 31, 33)] [4, 10, 11] [(0, 30, 30)]) σ0 σ) : zpc (fX12_f σ x1) (fun r => (zQ [3, 5, 6, 7, 8, 9, 21, 22, 23, 24, 25] [(0, 31, 33)] [4, 10, 11] [(0, 30, 30)]) σ0 (r.1)) := by
  unfold fX12_f
  exact zpc_bi (fk_fX12_wreg h) (fun σ1 v2 hσ1 => zpc_bi (fk_fX12_wreg hσ1) (fun σ3 v4 hσ3 => zpc_some hσ3))
theorem fk_fX12_t_40 {σ0 : zSt} {σ : zSt} {s0 : Int32} (h : (zQ [3, 5, 6, 7, 8, 9, 21, 22, 23, 24, 25] [(0, 31, 33)] [4, 10, 11] [(0, 30, 30)]) σ0 σ) : zpc (fX12_t_40 σ s0) (fun r => (zQ [3, 5, 6, 7, 8, 9, 21, 22, 23, 24, 25] [(0, 31, 33)] [4, 10, 11] [(0, 30, 30)]) σ0 (r.1)) := by
  unfold fX12_t_40
  exact zpc_some h
theorem fk_fX12_t_35 {σ0 : zSt} {σ : zSt} (h : (zQ [3, 5, 6, 7, 8, 9, 21, 22, 23, 24, 25] [(0, 31, 33)] [4, 10, 11] [(0, 30, 30)]) σ0 σ) : zpc (fX12_t_35 σ) (fun r => (zQ [3, 5, 6, 7, 8, 9, 21, 22, 23, 24, 25] [(0, 31, 33)] [4, 10, 11] [(0, 30, 30)]) σ0 (r.1)) := by
  unfold fX12_t_35
  exact fk_fX12_t_40 h
theorem fk_fX12_t_39 {σ0 : zSt} {σ : zSt} (h : (zQ [3, 5, 6, 7, 8, 9, 21, 22, 23, 24, 25] [(0, 31, 33)] [4, 10, 11] [(0, 30, 30)]) σ0 σ) : zpc (fX12_t_39 σ) (fun r => (zQ [3, 5, 6, 7, 8, 9, 21, 22, 23, 24, 25] [(0, 31, 33)] [4, 10, 11] [(0, 30, 30)]) σ0 (r.1)) := by
  unfold fX12_t_39
  exact fk_fX12_t_40 h
theorem fk_fX12_t_19 {σ0 : zSt} {σ : zSt} {x0 : Int32} {x1 : Int32} (h : (zQ [3, 5, 6, 7, 8, 9, 21, 22, 23, 24, 25] [(0, 31, 33)] [4, 10, 11] [(0, 30, 30)]) σ0 σ) : zpc (fX12_t_19 σ x0 x1) (fun r => (zQ [3, 5, 6, 7, 8, 9, 21, 22, 23, 24, 25] [(0, 31, 33)] [4, 10, 11] [(0, 30, 30)]) σ0 (r.1)) := by
  unfold fX12_t_19
  exact zpc_if (fun _ => fk_fX12_t_39 h) (fun _ => zpc_if (fun _ => fk_fX12_t_35 h) (fun _ => zpc_if (fun _ => fk_fX12_t_35 h) (fun _ => fk_fX12_t_39 h)))
theorem fk_fX12_t {σ0 : zSt} {σ : zSt} {x0 : Int32} {x1 : Int32} (h : (zQ [3, 5, 6, 7, 8, 9, 21, 22, 23, 24, 25] [(0, 31, 33)] [4, 10, 11] [(0, 30, 30)]) σ0 σ) : zpc (fX12_t σ x0 x1) (fun r => (zQ [3, 5, 6, 7, 8, 9, 21, 22, 23, 24, 25] [(0, 31, 33)] [4, 10, 11] [(0, 30, 30)]) σ0 (r.1)) := by
  unfold fX12_t
  exact zpc_ck (zpc_if (fun _ => fk_fX12_t_35 h) (fun _ => zpc_ck (zpc_if (fun _ => zpc_if (fun _ => fk_fX12_t_35 h) (fun _ => fk_fX12_t_19 h)) (fun _ => fk_fX12_t_19 h))))
theorem fk_fX12_envelope_275 {σ0 : zSt} {σ : zSt} {s0 : Int32} {s1 : Int32} (h : (zQ [3, 5, 6, 7, 8, 9, 21, 22, 23, 24, 25] [(0, 31, 33)] [4, 10, 11] [(0, 30, 30)]) σ0 σ) (qs1 : zr 172 274 s1) : zpc (fX12_envelope_275 σ s0 s1) (fun r => (zQ [3, 5, 6, 7, 8, 9, 21, 22, 23, 24, 25] [(0, 31, 33)] [4, 10, 11] [(0, 30, 30)]) σ0 (r)) := by
  unfold fX12_envelope_275
  exact zpc_ck (zpc_bs (zQ.wi h rfl) (fun σ1 hσ1 => zpc_some hσ1))
theorem fk_fX12_envelope_259 {σ0 : zSt} {σ : zSt} {x1 : Int32} {x15 : Int32} (h : (zQ [3, 5, 6, 7, 8, 9, 21, 22, 23, 24, 25] [(0, 31, 33)] [4, 10, 11] [(0, 30, 30)]) σ0 σ) (qx1 : zr 172 274 x1) : zpc (fX12_envelope_259 σ x1 x15) (fun r => (zQ [3, 5, 6, 7, 8, 9, 21, 22, 23, 24, 25] [(0, 31, 33)] [4, 10, 11] [(0, 30, 30)]) σ0 (r)) := by
  unfold fX12_envelope_259
  exact zpc_if (fun _ => fk_fX12_envelope_275 h qx1) (fun _ => fk_fX12_envelope_275 h qx1)
theorem fk_fX12_envelope_220 {σ0 : zSt} {σ : zSt} {x1 : Int32} {s0 : Int32} (h : (zQ [3, 5, 6, 7, 8, 9, 21, 22, 23, 24, 25] [(0, 31, 33)] [4, 10, 11] [(0, 30, 30)]) σ0 σ) (qx1 : zr 172 274 x1) : zpc (fX12_envelope_220 σ x1 s0) (fun r => (zQ [3, 5, 6, 7, 8, 9, 21, 22, 23, 24, 25] [(0, 31, 33)] [4, 10, 11] [(0, 30, 30)]) σ0 (r)) := by
  unfold fX12_envelope_220
  exact fk_fX12_envelope_259 h qx1
theorem fk_fX12_envelope_257 {σ0 : zSt} {σ : zSt} {x1 : Int32} {s0 : Int32} (h : (zQ [3, 5, 6, 7, 8, 9, 21, 22, 23, 24, 25] [(0, 31, 33)] [4, 10, 11] [(0, 30, 30)]) σ0 σ) (qx1 : zr 172 274 x1) : zpc (fX12_envelope_257 σ x1 s0) (fun r => (zQ [3, 5, 6, 7, 8, 9, 21, 22, 23, 24, 25] [(0, 31, 33)] [4, 10, 11] [(0, 30, 30)]) σ0 (r)) := by
  unfold fX12_envelope_257
  exact fk_fX12_envelope_259 h qx1
theorem fk_fX12_envelope_358 {σ0 : zSt} {σ : zSt} {s0 : Int32} {s1 : Int32} (h : (zQ [3, 5, 6, 7, 8, 9, 21, 22, 23, 24, 25] [(0, 31, 33)] [4, 10, 11] [(0, 30, 30)]) σ0 σ) (qs1 : zr 172 274 s1) : zpc (fX12_envelope_358 σ s0 s1) (fun r => (zQ [3, 5, 6, 7, 8, 9, 21, 22, 23, 24, 25] [(0, 31, 33)] [4, 10, 11] [(0, 30, 30)]) σ0 (r)) := by
  unfold fX12_envelope_358
  exact zpc_ck (zpc_bs (zQ.wi h rfl) (fun σ2 hσ2 => zpc_some hσ2))
theorem fk_fX12_envelope_336 {σ0 : zSt} {σ : zSt} {x1 : Int32} {s0 : Int32} {s1 : Int32} (h : (zQ [3, 5, 6, 7, 8, 9, 21, 22, 23, 24, 25] [(0, 31, 33)] [4, 10, 11] [(0, 30, 30)]) σ0 σ) (qx1 : zr 172 274 x1) : zpc (fX12_envelope_336 σ x1 s0 s1) (fun r => (zQ [3, 5, 6, 7, 8, 9, 21, 22, 23, 24, 25] [(0, 31, 33)] [4, 10, 11] [(0, 30, 30)]) σ0 (r)) := by
  unfold fX12_envelope_336
  exact zpc_bv (fun v3 _ => zpc_if (fun _ => fk_fX12_envelope_358 h qx1) (fun _ => fk_fX12_envelope_358 h qx1))
theorem fk_fX12_envelope_159 {σ0 : zSt} {σ : zSt} {x1 : Int32} {x4 : Int32} {x7 : Int32} {x8 : Int32} {x9 : Int64} {s0 : Int32} (h : (zQ [3, 5, 6, 7, 8, 9, 21, 22, 23, 24, 25] [(0, 31, 33)] [4, 10, 11] [(0, 30, 30)]) σ0 σ) (qx1 : zr 172 274 x1) : zpc (fX12_envelope_159 σ x1 x4 x7 x8 x9 s0) (fun r => (zQ [3, 5, 6, 7, 8, 9, 21, 22, 23, 24, 25] [(0, 31, 33)] [4, 10, 11] [(0, 30, 30)]) σ0 (r)) := by
  unfold fX12_envelope_159
  exact zpc_ck (zpc_ck (zpc_bv (fun v4 _ => zpc_ck (zpc_bv (fun v5 _ => zpc_if (fun _ => zpc_if (fun _ => zpc_if (fun _ => fk_fX12_envelope_257 h qx1) (fun _ => zpc_bi (fk_fX12_t h) (fun σ10 v11 hσ10 => fk_fX12_envelope_257 hσ10 qx1))) (fun _ => zpc_if (fun _ => zpc_ck (fk_fX12_envelope_220 h qx1)) (fun _ => fk_fX12_envelope_220 h qx1))) (fun _ => zpc_if (fun _ => zpc_if (fun _ => zpc_ck (zpc_bi (fk_fX12_t h) (fun σ8 v9 hσ8 => fk_fX12_envelope_336 hσ8 qx1))) (fun _ => zpc_if (fun _ => zpc_bi (fk_fX12_t h) (fun σ6 v7 hσ6 => fk_fX12_envelope_336 hσ6 qx1)) (fun _ => fk_fX12_envelope_336 h qx1))) (fun _ => fk_fX12_envelope_336 h qx1)))))))
theorem fk_fX12_envelope_158 {σ0 : zSt} {σ : zSt} {x1 : Int32} {x4 : Int32} {x7 : Int32} {x8 : Int32} {x9 : Int64} (h : (zQ [3, 5, 6, 7, 8, 9, 21, 22, 23, 24, 25] [(0, 31, 33)] [4, 10, 11] [(0, 30, 30)]) σ0 σ) (qx1 : zr 172 274 x1) : zpc (fX12_envelope_158 σ x1 x4 x7 x8 x9) (fun r => (zQ [3, 5, 6, 7, 8, 9, 21, 22, 23, 24, 25] [(0, 31, 33)] [4, 10, 11] [(0, 30, 30)]) σ0 (r)) := by
  unfold fX12_envelope_158
  exact fk_fX12_envelope_159 h qx1
theorem fk_fX12_envelope_121 {σ0 : zSt} {σ : zSt} {x1 : Int32} {x4 : Int32} {x7 : Int32} {x8 : Int32} {x9 : Int64} {s0 : Int64} (h : (zQ [3, 5, 6, 7, 8, 9, 21, 22, 23, 24, 25] [(0, 31, 33)] [4, 10, 11] [(0, 30, 30)]) σ0 σ) (qx1 : zr 172 274 x1) : zpc (fX12_envelope_121 σ x1 x4 x7 x8 x9 s0) (fun r => (zQ [3, 5, 6, 7, 8, 9, 21, 22, 23, 24, 25] [(0, 31, 33)] [4, 10, 11] [(0, 30, 30)]) σ0 (r)) := by
  unfold fX12_envelope_121
  exact zpc_if (fun _ => fk_fX12_envelope_158 h qx1) (fun _ => zpc_ck (zpc_if (fun _ => zpc_ck (zpc_ck (zpc_bi (fk_fX12_t h) (fun σ12 v13 hσ12 => fk_fX12_envelope_159 hσ12 qx1)))) (fun _ => fk_fX12_envelope_158 h qx1)))
theorem fk_fX12_envelope_87 {σ0 : zSt} {σ : zSt} {x1 : Int32} {x4 : Int32} {x6 : Int32} {s0 : Int32} (h : (zQ [3, 5, 6, 7, 8, 9, 21, 22, 23, 24, 25] [(0, 31, 33)] [4, 10, 11] [(0, 30, 30)]) σ0 σ) (qx1 : zr 172 274 x1) : zpc (fX12_envelope_87 σ x1 x4 x6 s0) (fun r => (zQ [3, 5, 6, 7, 8, 9, 21, 22, 23, 24, 25] [(0, 31, 33)] [4, 10, 11] [(0, 30, 30)]) σ0 (r)) := by
  unfold fX12_envelope_87
  exact zpc_ck (zpc_bv (fun v14 _ => zpc_ck (zpc_bv (fun v15 _ => zpc_if (fun _ => fk_fX12_envelope_121 h qx1) (fun _ => fk_fX12_envelope_121 h qx1)))))
theorem fk_fX12_envelope_63 {σ0 : zSt} {σ : zSt} {x1 : Int32} {x4 : Int32} {x5 : Int32} {x6 : Int32} (h : (zQ [3, 5, 6, 7, 8, 9, 21, 22, 23, 24, 25] [(0, 31, 33)] [4, 10, 11] [(0, 30, 30)]) σ0 σ) (qx1 : zr 172 274 x1) : zpc (fX12_envelope_63 σ x1 x4 x5 x6) (fun r => (zQ [3, 5, 6, 7, 8, 9, 21, 22, 23, 24, 25] [(0, 31, 33)] [4, 10, 11] [(0, 30, 30)]) σ0 (r)) := by
  unfold fX12_envelope_63
  exact zpc_ck (zpc_if (fun _ => zpc_ck (fk_fX12_envelope_87 h qx1)) (fun _ => fk_fX12_envelope_87 h qx1))
theorem fk_fX12_envelope {σ0 : zSt} {σ : zSt} {x1 : Int32} {x2 : Int32} {x3 : Int32} (h : (zQ [3, 5, 6, 7, 8, 9, 21, 22, 23, 24, 25] [(0, 31, 33)] [4, 10, 11] [(0, 30, 30)]) σ0 σ) (qx1 : zr 172 274 x1) : zpc (fX12_envelope σ x1 x2 x3) (fun r => (zQ [3, 5, 6, 7, 8, 9, 21, 22, 23, 24, 25] [(0, 31, 33)] [4, 10, 11] [(0, 30, 30)]) σ0 (r)) := by
  unfold fX12_envelope
  exact zpc_ck (zpc_bv (fun v16 _ => zpc_bi (fk_fX12_rate h) (fun σ17 v18 hσ17 => zpc_if (fun _ => zpc_some hσ17) (fun _ => zpc_bi (fk_fX12_block hσ17) (fun σ19 v20 hσ19 => zpc_bi (fk_fX12_f hσ19) (fun σ21 v22 hσ21 => zpc_ck (zpc_bv (fun v23 _ => zpc_bi (fk_fX12_patchByte hσ21) (fun σ24 v25 hσ24 => zpc_if (fun _ => zpc_ck (zpc_bv (fun v26 _ => fk_fX12_envelope_63 hσ24 qx1))) (fun _ => fk_fX12_envelope_63 hσ24 qx1))))))))))
theorem fk_fX12_phase_150 {σ0 : zSt} {σ : zSt} {x1 : Int32} {x2 : Int32} {x5 : Int32} {x6 : Int32} (h : (zQ [3, 5, 6, 7, 8, 9, 21, 22, 23, 24, 25] [(0, 31, 33)] [4, 10, 11] [(0, 30, 30)]) σ0 σ) (qx1 : zr 172 274 x1) : zpc (fX12_phase_150 σ x1 x2 x5 x6) (fun r => (zQ [3, 5, 6, 7, 8, 9, 21, 22, 23, 24, 25] [(0, 31, 33)] [4, 10, 11] [(0, 30, 30)]) σ0 (r)) := by
  unfold fX12_phase_150
  exact zpc_ck (zpc_bi (fk_fX12_f h) (fun σ1 v2 hσ1 => zpc_bi (fk_fX12_block hσ1) (fun σ3 v4 hσ3 => zpc_ck (zpc_ck (zpc_bs (zQ.wi hσ3 rfl) (fun σ5 hσ5 => zpc_some hσ5))))))
theorem fk_fX12_phase_148 {σ0 : zSt} {σ : zSt} {x1 : Int32} {x2 : Int32} {x5 : Int32} {s0 : Int32} (h : (zQ [3, 5, 6, 7, 8, 9, 21, 22, 23, 24, 25] [(0, 31, 33)] [4, 10, 11] [(0, 30, 30)]) σ0 σ) (qx1 : zr 172 274 x1) : zpc (fX12_phase_148 σ x1 x2 x5 s0) (fun r => (zQ [3, 5, 6, 7, 8, 9, 21, 22, 23, 24, 25] [(0, 31, 33)] [4, 10, 11] [(0, 30, 30)]) σ0 (r)) := by
  unfold fX12_phase_148
  exact fk_fX12_phase_150 h qx1
theorem fk_fX12_phase_132 {σ0 : zSt} {σ : zSt} {x1 : Int32} {x2 : Int32} {x5 : Int32} {x7 : Int32} {s0 : Int32} (h : (zQ [3, 5, 6, 7, 8, 9, 21, 22, 23, 24, 25] [(0, 31, 33)] [4, 10, 11] [(0, 30, 30)]) σ0 σ) (qx1 : zr 172 274 x1) : zpc (fX12_phase_132 σ x1 x2 x5 x7 s0) (fun r => (zQ [3, 5, 6, 7, 8, 9, 21, 22, 23, 24, 25] [(0, 31, 33)] [4, 10, 11] [(0, 30, 30)]) σ0 (r)) := by
  unfold fX12_phase_132
  exact zpc_if (fun _ => fk_fX12_phase_148 h qx1) (fun _ => fk_fX12_phase_148 h qx1)
theorem fk_fX12_phase_60 {σ0 : zSt} {σ : zSt} {x1 : Int32} {x2 : Int32} {x3 : Int32} {s0 : Int32} (h : (zQ [3, 5, 6, 7, 8, 9, 21, 22, 23, 24, 25] [(0, 31, 33)] [4, 10, 11] [(0, 30, 30)]) σ0 σ) (qx1 : zr 172 274 x1) : zpc (fX12_phase_60 σ x1 x2 x3 s0) (fun r => (zQ [3, 5, 6, 7, 8, 9, 21, 22, 23, 24, 25] [(0, 31, 33)] [4, 10, 11] [(0, 30, 30)]) σ0 (r)) := by
  unfold fX12_phase_60
  exact zpc_bi (fk_fX12_patchByte h) (fun σ6 v7 hσ6 => zpc_if (fun _ => fk_fX12_phase_150 hσ6 qx1) (fun _ => zpc_ck (zpc_ck (zpc_ck (zpc_bv (fun v8 _ => zpc_bi (fk_fX12_f hσ6) (fun σ9 v10 hσ9 => zpc_ck (zpc_bv (fun v11 _ => zpc_ck (zpc_if (fun _ => fk_fX12_phase_132 hσ9 qx1) (fun _ => zpc_ck (zpc_if (fun _ => fk_fX12_phase_132 hσ9 qx1) (fun _ => zpc_ck (fk_fX12_phase_132 hσ9 qx1))))))))))))))
theorem fk_fX12_phase {σ0 : zSt} {σ : zSt} {x1 : Int32} {x2 : Int32} {x3 : Int32} (h : (zQ [3, 5, 6, 7, 8, 9, 21, 22, 23, 24, 25] [(0, 31, 33)] [4, 10, 11] [(0, 30, 30)]) σ0 σ) (qx1 : zr 172 274 x1) : zpc (fX12_phase σ x1 x2 x3) (fun r => (zQ [3, 5, 6, 7, 8, 9, 21, 22, 23, 24, 25] [(0, 31, 33)] [4, 10, 11] [(0, 30, 30)]) σ0 (r)) := by
  unfold fX12_phase
  exact zpc_bi (fk_fX12_patchByte h) (fun σ12 v13 hσ12 => zpc_bv (fun v14 _ => zpc_if (fun _ => fk_fX12_phase_60 hσ12 qx1) (fun _ => zpc_if (fun _ => zpc_if (fun _ => fk_fX12_phase_60 hσ12 qx1) (fun _ => zpc_if (fun _ => fk_fX12_phase_60 hσ12 qx1) (fun _ => fk_fX12_phase_60 hσ12 qx1))) (fun _ => fk_fX12_phase_60 hσ12 qx1))))
theorem fk_fX12_drum_191 {σ0 : zSt} {σ : zSt} {s0 : Int32} (h : (zQ [3, 5, 6, 7, 8, 9, 21, 22, 23, 24, 25] [(0, 31, 33)] [4, 10, 11] [(0, 30, 30)]) σ0 σ) : zpc (fX12_drum_191 σ s0) (fun r => (zQ [3, 5, 6, 7, 8, 9, 21, 22, 23, 24, 25] [(0, 31, 33)] [4, 10, 11] [(0, 30, 30)]) σ0 (r.1)) := by
  unfold fX12_drum_191
  exact zpc_some h
theorem fk_fX12_drum_214 {σ0 : zSt} {σ : zSt} {s0 : Int32} (h : (zQ [3, 5, 6, 7, 8, 9, 21, 22, 23, 24, 25] [(0, 31, 33)] [4, 10, 11] [(0, 30, 30)]) σ0 σ) : zpc (fX12_drum_214 σ s0) (fun r => (zQ [3, 5, 6, 7, 8, 9, 21, 22, 23, 24, 25] [(0, 31, 33)] [4, 10, 11] [(0, 30, 30)]) σ0 (r.1)) := by
  unfold fX12_drum_214
  exact zpc_some h
theorem fk_fX12_drum_148 {σ0 : zSt} {σ : zSt} {x1 : Int32} {x2 : Int32} {x3 : Int32} {x6 : Int32} {x7 : Int32} (h : (zQ [3, 5, 6, 7, 8, 9, 21, 22, 23, 24, 25] [(0, 31, 33)] [4, 10, 11] [(0, 30, 30)]) σ0 σ) : zpc (fX12_drum_148 σ x1 x2 x3 x6 x7) (fun r => (zQ [3, 5, 6, 7, 8, 9, 21, 22, 23, 24, 25] [(0, 31, 33)] [4, 10, 11] [(0, 30, 30)]) σ0 (r.1)) := by
  unfold fX12_drum_148
  exact zpc_if (fun _ => zpc_if (fun _ => zpc_if (fun _ => fk_fX12_drum_191 h) (fun _ => fk_fX12_drum_191 h)) (fun _ => zpc_if (fun _ => fk_fX12_drum_191 h) (fun _ => fk_fX12_drum_191 h))) (fun _ => zpc_if (fun _ => fk_fX12_drum_214 h) (fun _ => zpc_if (fun _ => fk_fX12_drum_214 h) (fun _ => fk_fX12_drum_214 h)))
theorem fk_fX12_drum_147 {σ0 : zSt} {σ : zSt} {s0 : Int32} (h : (zQ [3, 5, 6, 7, 8, 9, 21, 22, 23, 24, 25] [(0, 31, 33)] [4, 10, 11] [(0, 30, 30)]) σ0 σ) : zpc (fX12_drum_147 σ s0) (fun r => (zQ [3, 5, 6, 7, 8, 9, 21, 22, 23, 24, 25] [(0, 31, 33)] [4, 10, 11] [(0, 30, 30)]) σ0 (r.1)) := by
  unfold fX12_drum_147
  exact zpc_some h
theorem fk_fX12_drum_100 {σ0 : zSt} {σ : zSt} {x1 : Int32} {x2 : Int32} {x3 : Int32} {x6 : Int32} {s0 : Int32} (h : (zQ [3, 5, 6, 7, 8, 9, 21, 22, 23, 24, 25] [(0, 31, 33)] [4, 10, 11] [(0, 30, 30)]) σ0 σ) : zpc (fX12_drum_100 σ x1 x2 x3 x6 s0) (fun r => (zQ [3, 5, 6, 7, 8, 9, 21, 22, 23, 24, 25] [(0, 31, 33)] [4, 10, 11] [(0, 30, 30)]) σ0 (r.1)) := by
  unfold fX12_drum_100
  exact zpc_if (fun _ => zpc_if (fun _ => zpc_if (fun _ => zpc_if (fun _ => fk_fX12_drum_147 h) (fun _ => fk_fX12_drum_147 h)) (fun _ => zpc_if (fun _ => fk_fX12_drum_147 h) (fun _ => fk_fX12_drum_147 h))) (fun _ => fk_fX12_drum_148 h)) (fun _ => fk_fX12_drum_148 h)
theorem fk_fX12_drum_79 {σ0 : zSt} {σ : zSt} {x1 : Int32} {x2 : Int32} {x3 : Int32} {s0 : Int32} (h : (zQ [3, 5, 6, 7, 8, 9, 21, 22, 23, 24, 25] [(0, 31, 33)] [4, 10, 11] [(0, 30, 30)]) σ0 σ) : zpc (fX12_drum_79 σ x1 x2 x3 s0) (fun r => (zQ [3, 5, 6, 7, 8, 9, 21, 22, 23, 24, 25] [(0, 31, 33)] [4, 10, 11] [(0, 30, 30)]) σ0 (r.1)) := by
  unfold fX12_drum_79
  exact zpc_ck (zpc_if (fun _ => fk_fX12_drum_100 h) (fun _ => fk_fX12_drum_100 h))
theorem fk_fX12_drum_74 {σ0 : zSt} {σ : zSt} {x1 : Int32} {x2 : Int32} {x3 : Int32} (h : (zQ [3, 5, 6, 7, 8, 9, 21, 22, 23, 24, 25] [(0, 31, 33)] [4, 10, 11] [(0, 30, 30)]) σ0 σ) : zpc (fX12_drum_74 σ x1 x2 x3) (fun r => (zQ [3, 5, 6, 7, 8, 9, 21, 22, 23, 24, 25] [(0, 31, 33)] [4, 10, 11] [(0, 30, 30)]) σ0 (r.1)) := by
  unfold fX12_drum_74
  exact fk_fX12_drum_79 h
theorem fk_fX12_drum {σ0 : zSt} {σ : zSt} {x1 : Int32} {x2 : Int32} {x3 : Int32} (h : (zQ [3, 5, 6, 7, 8, 9, 21, 22, 23, 24, 25] [(0, 31, 33)] [4, 10, 11] [(0, 30, 30)]) σ0 σ) : zpc (fX12_drum σ x1 x2 x3) (fun r => (zQ [3, 5, 6, 7, 8, 9, 21, 22, 23, 24, 25] [(0, 31, 33)] [4, 10, 11] [(0, 30, 30)]) σ0 (r.1)) := by
  unfold fX12_drum
  exact zpc_ck (zpc_ck (zpc_bv (fun v1 _ => zpc_ck (zpc_ck (zpc_bv (fun v2 _ => zpc_if (fun _ => zpc_if (fun _ => zpc_if (fun _ => fk_fX12_drum_79 h) (fun _ => fk_fX12_drum_74 h)) (fun _ => fk_fX12_drum_74 h)) (fun _ => fk_fX12_drum_74 h)))))))
theorem fk_fX12_kept_97 {σ0 : zSt} {σ : zSt} {s0 : Int32} (h : (zQ [3, 5, 6, 7, 8, 9, 21, 22, 23, 24, 25] [(0, 31, 33)] [4, 10, 11] [(0, 30, 30)]) σ0 σ) : zpc (fX12_kept_97 σ s0) (fun r => (zQ [3, 5, 6, 7, 8, 9, 21, 22, 23, 24, 25] [(0, 31, 33)] [4, 10, 11] [(0, 30, 30)]) σ0 (r.1)) := by
  unfold fX12_kept_97
  exact zpc_some h
theorem fk_fX12_kept {σ0 : zSt} {σ : zSt} {x0 : Int32} (h : (zQ [3, 5, 6, 7, 8, 9, 21, 22, 23, 24, 25] [(0, 31, 33)] [4, 10, 11] [(0, 30, 30)]) σ0 σ) : zpc (fX12_kept σ x0) (fun r => (zQ [3, 5, 6, 7, 8, 9, 21, 22, 23, 24, 25] [(0, 31, 33)] [4, 10, 11] [(0, 30, 30)]) σ0 (r.1)) := by
  unfold fX12_kept
  exact zpc_if (fun _ => fk_fX12_kept_97 h) (fun _ => zpc_if (fun _ => fk_fX12_kept_97 h) (fun _ => zpc_if (fun _ => fk_fX12_kept_97 h) (fun _ => zpc_if (fun _ => fk_fX12_kept_97 h) (fun _ => zpc_if (fun _ => fk_fX12_kept_97 h) (fun _ => zpc_if (fun _ => fk_fX12_kept_97 h) (fun _ => zpc_if (fun _ => fk_fX12_kept_97 h) (fun _ => zpc_if (fun _ => fk_fX12_kept_97 h) (fun _ => zpc_if (fun _ => fk_fX12_kept_97 h) (fun _ => fk_fX12_kept_97 h)))))))))
theorem fk_fX12_waveAt_376 {σ0 : zSt} {σ : zSt} {s0 : Int32} (h : (zQ [3, 5, 6, 7, 8, 9, 21, 22, 23, 24, 25] [(0, 31, 33)] [4, 10, 11] [(0, 30, 30)]) σ0 σ) : zpc (fX12_waveAt_376 σ s0) (fun r => (zQ [3, 5, 6, 7, 8, 9, 21, 22, 23, 24, 25] [(0, 31, 33)] [4, 10, 11] [(0, 30, 30)]) σ0 (r.1)) := by
  unfold fX12_waveAt_376
  exact zpc_some h
theorem fk_fX12_waveAt_296 {σ0 : zSt} {σ : zSt} {x2 : Int32} {x3 : Int32} {x4 : Int32} {x5 : Int32} {s0 : Int32} (h : (zQ [3, 5, 6, 7, 8, 9, 21, 22, 23, 24, 25] [(0, 31, 33)] [4, 10, 11] [(0, 30, 30)]) σ0 σ) : zpc (fX12_waveAt_296 σ x2 x3 x4 x5 s0) (fun r => (zQ [3, 5, 6, 7, 8, 9, 21, 22, 23, 24, 25] [(0, 31, 33)] [4, 10, 11] [(0, 30, 30)]) σ0 (r.1)) := by
  unfold fX12_waveAt_296
  exact zpc_ck (zpc_bv (fun v1 _ => zpc_ck (zpc_ck (zpc_ck (zpc_bv (fun v2 _ => zpc_if (fun _ => zpc_some h) (fun _ => zpc_bi (fk_fX12_patchByte h) (fun σ3 v4 hσ3 => zpc_if (fun _ => fk_fX12_waveAt_376 hσ3) (fun _ => fk_fX12_waveAt_376 hσ3)))))))))
theorem fk_fX12_waveAt_263 {σ0 : zSt} {σ : zSt} {x1 : Int32} {x2 : Int32} {x3 : Int32} {x4 : Int32} {x5 : Int32} {x8 : Int32} {x11 : Int32} {s0 : Int32} (h : (zQ [3, 5, 6, 7, 8, 9, 21, 22, 23, 24, 25] [(0, 31, 33)] [4, 10, 11] [(0, 30, 30)]) σ0 σ) : zpc (fX12_waveAt_263 σ x1 x2 x3 x4 x5 x8 x11 s0) (fun r => (zQ [3, 5, 6, 7, 8, 9, 21, 22, 23, 24, 25] [(0, 31, 33)] [4, 10, 11] [(0, 30, 30)]) σ0 (r.1)) := by
  unfold fX12_waveAt_263
  exact zpc_ck (zpc_bv (fun v5 _ => zpc_if (fun _ => fk_fX12_waveAt_296 h) (fun _ => fk_fX12_waveAt_296 h)))
theorem fk_fX12_waveAt_260 {σ0 : zSt} {σ : zSt} {x1 : Int32} {x2 : Int32} {x3 : Int32} {x4 : Int32} {x5 : Int32} {x8 : Int32} {x11 : Int32} {s0 : Int32} (h : (zQ [3, 5, 6, 7, 8, 9, 21, 22, 23, 24, 25] [(0, 31, 33)] [4, 10, 11] [(0, 30, 30)]) σ0 σ) : zpc (fX12_waveAt_260 σ x1 x2 x3 x4 x5 x8 x11 s0) (fun r => (zQ [3, 5, 6, 7, 8, 9, 21, 22, 23, 24, 25] [(0, 31, 33)] [4, 10, 11] [(0, 30, 30)]) σ0 (r.1)) := by
  unfold fX12_waveAt_260
  exact zpc_ck (fk_fX12_waveAt_263 h)
theorem fk_fX12_waveAt_206 {σ0 : zSt} {σ : zSt} {x1 : Int32} {x2 : Int32} {x3 : Int32} {x4 : Int32} {x5 : Int32} {x8 : Int32} {s0 : Int32} (h : (zQ [3, 5, 6, 7, 8, 9, 21, 22, 23, 24, 25] [(0, 31, 33)] [4, 10, 11] [(0, 30, 30)]) σ0 σ) : zpc (fX12_waveAt_206 σ x1 x2 x3 x4 x5 x8 s0) (fun r => (zQ [3, 5, 6, 7, 8, 9, 21, 22, 23, 24, 25] [(0, 31, 33)] [4, 10, 11] [(0, 30, 30)]) σ0 (r.1)) := by
  unfold fX12_waveAt_206
  exact zpc_ck (zpc_ck (zpc_ck (zpc_bv (fun v6 _ => zpc_bi (fk_fX12_patchByte h) (fun σ7 v8 hσ7 => zpc_if (fun _ => fk_fX12_waveAt_263 hσ7) (fun _ => zpc_if (fun _ => fk_fX12_waveAt_260 hσ7) (fun _ => fk_fX12_waveAt_260 hσ7)))))))
theorem fk_fX12_waveAt_192 {σ0 : zSt} {σ : zSt} {x1 : Int32} {x2 : Int32} {x3 : Int32} {x4 : Int32} {x5 : Int32} {x8 : Int32} {x9 : Int32} (h : (zQ [3, 5, 6, 7, 8, 9, 21, 22, 23, 24, 25] [(0, 31, 33)] [4, 10, 11] [(0, 30, 30)]) σ0 σ) : zpc (fX12_waveAt_192 σ x1 x2 x3 x4 x5 x8 x9) (fun r => (zQ [3, 5, 6, 7, 8, 9, 21, 22, 23, 24, 25] [(0, 31, 33)] [4, 10, 11] [(0, 30, 30)]) σ0 (r.1)) := by
  unfold fX12_waveAt_192
  exact zpc_ck (zpc_ck (fk_fX12_waveAt_206 h))
theorem fk_fX12_waveAt_123 {σ0 : zSt} {σ : zSt} {x1 : Int32} {x2 : Int32} {x3 : Int32} {x4 : Int32} {x5 : Int32} {s0 : Int32} (h : (zQ [3, 5, 6, 7, 8, 9, 21, 22, 23, 24, 25] [(0, 31, 33)] [4, 10, 11] [(0, 30, 30)]) σ0 σ) : zpc (fX12_waveAt_123 σ x1 x2 x3 x4 x5 s0) (fun r => (zQ [3, 5, 6, 7, 8, 9, 21, 22, 23, 24, 25] [(0, 31, 33)] [4, 10, 11] [(0, 30, 30)]) σ0 (r.1)) := by
  unfold fX12_waveAt_123
  exact zpc_bi (fk_fX12_patchByte h) (fun σ9 v10 hσ9 => zpc_bv (fun v11 _ => zpc_bi (fk_fX12_wreg hσ9) (fun σ12 v13 hσ12 => zpc_bv (fun v14 _ => zpc_if (fun _ => fk_fX12_waveAt_206 hσ12) (fun _ => zpc_bi (fk_fX12_isRhythm hσ12) (fun σ15 v16 hσ15 => zpc_if (fun _ => fk_fX12_waveAt_192 hσ15) (fun _ => zpc_if (fun _ => fk_fX12_waveAt_192 hσ15) (fun _ => zpc_bi (fk_fX12_wreg hσ15) (fun σ17 v18 hσ17 => fk_fX12_waveAt_206 hσ17)))))))))
theorem fk_fX12_waveAt_91 {σ0 : zSt} {σ : zSt} {x1 : Int32} {x2 : Int32} {x3 : Int32} {x4 : Int32} {x5 : Int32} (h : (zQ [3, 5, 6, 7, 8, 9, 21, 22, 23, 24, 25] [(0, 31, 33)] [4, 10, 11] [(0, 30, 30)]) σ0 σ) : zpc (fX12_waveAt_91 σ x1 x2 x3 x4 x5) (fun r => (zQ [3, 5, 6, 7, 8, 9, 21, 22, 23, 24, 25] [(0, 31, 33)] [4, 10, 11] [(0, 30, 30)]) σ0 (r.1)) := by
  unfold fX12_waveAt_91
  exact fk_fX12_waveAt_123 h
theorem fk_fX12_waveAt_41 {σ0 : zSt} {σ : zSt} {x1 : Int32} {x2 : Int32} {x3 : Int32} {x4 : Int32} {s0 : Int32} (h : (zQ [3, 5, 6, 7, 8, 9, 21, 22, 23, 24, 25] [(0, 31, 33)] [4, 10, 11] [(0, 30, 30)]) σ0 σ) : zpc (fX12_waveAt_41 σ x1 x2 x3 x4 s0) (fun r => (zQ [3, 5, 6, 7, 8, 9, 21, 22, 23, 24, 25] [(0, 31, 33)] [4, 10, 11] [(0, 30, 30)]) σ0 (r.1)) := by
  unfold fX12_waveAt_41
  exact zpc_bi (fk_fX12_patchByte h) (fun σ19 v20 hσ19 => zpc_bv (fun v21 _ => zpc_bi (fk_fX12_f hσ19) (fun σ22 v23 hσ22 => zpc_ck (zpc_bi (fk_fX12_kept hσ22) (fun σ24 v25 hσ24 => zpc_bi (fk_fX12_block hσ24) (fun σ26 v27 hσ26 => zpc_bv (fun v28 _ => zpc_if (fun _ => fk_fX12_waveAt_91 hσ26) (fun _ => zpc_if (fun _ => fk_fX12_waveAt_91 hσ26) (fun _ => zpc_if (fun _ => zpc_ck (fk_fX12_waveAt_123 hσ26)) (fun _ => zpc_if (fun _ => zpc_ck (fk_fX12_waveAt_123 hσ26)) (fun _ => fk_fX12_waveAt_123 hσ26)))))))))))
theorem fk_fX12_waveAt {σ0 : zSt} {σ : zSt} {x1 : Int32} {x2 : Int32} {x3 : Int32} {x4 : Int32} (h : (zQ [3, 5, 6, 7, 8, 9, 21, 22, 23, 24, 25] [(0, 31, 33)] [4, 10, 11] [(0, 30, 30)]) σ0 σ) : zpc (fX12_waveAt σ x1 x2 x3 x4) (fun r => (zQ [3, 5, 6, 7, 8, 9, 21, 22, 23, 24, 25] [(0, 31, 33)] [4, 10, 11] [(0, 30, 30)]) σ0 (r.1)) := by
  unfold fX12_waveAt
  exact zpc_ck (zpc_if (fun _ => zpc_if (fun _ => zpc_ck (fk_fX12_waveAt_41 h)) (fun _ => zpc_ck (fk_fX12_waveAt_41 h))) (fun _ => zpc_some h))
theorem fk_fX12_operator_319 {σ0 : zSt} {σ : zSt} {x1 : Int32} {x2 : Int32} {x3 : Int32} {x5 : Int32} {x8 : Int32} (h : (zQ [3, 5, 6, 7, 8, 9, 21, 22, 23, 24, 25] [(0, 31, 33)] [4, 10, 11] [(0, 30, 30)]) σ0 σ) (qx3 : zr 172 274 x3) : zpc (fX12_operator_319 σ x1 x2 x3 x5 x8) (fun r => (zQ [3, 5, 6, 7, 8, 9, 21, 22, 23, 24, 25] [(0, 31, 33)] [4, 10, 11] [(0, 30, 30)]) σ0 (r)) := by
  unfold fX12_operator_319
  exact zpc_ck (zpc_bs (zQ.wi h rfl) (fun σ1 hσ1 => zpc_bi (fk_fX12_waveAt hσ1) (fun σ2 v3 hσ2 => zpc_ck (zpc_bs (zQ.wi hσ2 rfl) (fun σ4 hσ4 => zpc_some hσ4)))))
theorem fk_fX12_operator_266 {σ0 : zSt} {σ : zSt} {x1 : Int32} {x2 : Int32} {x3 : Int32} {x5 : Int32} {s0 : Int32} (h : (zQ [3, 5, 6, 7, 8, 9, 21, 22, 23, 24, 25] [(0, 31, 33)] [4, 10, 11] [(0, 30, 30)]) σ0 σ) (qx3 : zr 172 274 x3) : zpc (fX12_operator_266 σ x1 x2 x3 x5 s0) (fun r => (zQ [3, 5, 6, 7, 8, 9, 21, 22, 23, 24, 25] [(0, 31, 33)] [4, 10, 11] [(0, 30, 30)]) σ0 (r)) := by
  unfold fX12_operator_266
  exact zpc_ck (zpc_ck (zpc_bv (fun v5 _ => zpc_bi (fk_fX12_isRhythm h) (fun σ6 v7 hσ6 => zpc_if (fun _ => fk_fX12_operator_319 hσ6 qx3) (fun _ => zpc_if (fun _ => fk_fX12_operator_319 hσ6 qx3) (fun _ => zpc_ck (zpc_ck (zpc_bi (fk_fX12_drum hσ6) (fun σ8 v9 hσ8 => fk_fX12_operator_319 hσ8 qx3)))))))))
theorem fk_fX12_operator_190 {σ0 : zSt} {σ : zSt} {x1 : Int32} {x2 : Int32} {x3 : Int32} (h : (zQ [3, 5, 6, 7, 8, 9, 21, 22, 23, 24, 25] [(0, 31, 33)] [4, 10, 11] [(0, 30, 30)]) σ0 σ) (qx3 : zr 172 274 x3) : zpc (fX12_operator_190 σ x1 x2 x3) (fun r => (zQ [3, 5, 6, 7, 8, 9, 21, 22, 23, 24, 25] [(0, 31, 33)] [4, 10, 11] [(0, 30, 30)]) σ0 (r)) := by
  unfold fX12_operator_190
  exact zpc_bu (fk_fX12_phase h qx3) (fun σ10 hσ10 => zpc_ck (zpc_bv (fun v11 _ => zpc_bi (fk_fX12_patchByte hσ10) (fun σ12 v13 hσ12 => zpc_bv (fun v14 _ => zpc_if (fun _ => zpc_ck (fk_fX12_operator_266 hσ12 qx3)) (fun _ => zpc_if (fun _ => fk_fX12_operator_266 hσ12 qx3) (fun _ => zpc_ck (zpc_ck (fk_fX12_operator_266 hσ12 qx3)))))))))
theorem fk_fX12_operator_146 {σ0 : zSt} {σ : zSt} {x1 : Int32} {x2 : Int32} {x3 : Int32} (h : (zQ [3, 5, 6, 7, 8, 9, 21, 22, 23, 24, 25] [(0, 31, 33)] [4, 10, 11] [(0, 30, 30)]) σ0 σ) (qx3 : zr 172 274 x3) : zpc (fX12_operator_146 σ x1 x2 x3) (fun r => (zQ [3, 5, 6, 7, 8, 9, 21, 22, 23, 24, 25] [(0, 31, 33)] [4, 10, 11] [(0, 30, 30)]) σ0 (r)) := by
  unfold fX12_operator_146
  exact zpc_ck (zpc_if (fun _ => zpc_ck (zpc_ck (zpc_bi (fk_fX12_patchByte h) (fun σ15 v16 hσ15 => zpc_if (fun _ => fk_fX12_operator_190 hσ15 qx3) (fun _ => zpc_ck (zpc_bs (zQ.wi hσ15 rfl) (fun σ17 hσ17 => fk_fX12_operator_190 hσ17 qx3))))))) (fun _ => fk_fX12_operator_190 h qx3))
theorem fk_fX12_operator_113 {σ0 : zSt} {σ : zSt} {x1 : Int32} {x2 : Int32} {x3 : Int32} (h : (zQ [3, 5, 6, 7, 8, 9, 21, 22, 23, 24, 25] [(0, 31, 33)] [4, 10, 11] [(0, 30, 30)]) σ0 σ) (qx3 : zr 172 274 x3) : zpc (fX12_operator_113 σ x1 x2 x3) (fun r => (zQ [3, 5, 6, 7, 8, 9, 21, 22, 23, 24, 25] [(0, 31, 33)] [4, 10, 11] [(0, 30, 30)]) σ0 (r)) := by
  unfold fX12_operator_113
  exact zpc_ck (zpc_if (fun _ => zpc_ck (zpc_if (fun _ => zpc_ck (zpc_bs (zQ.wi h rfl) (fun σ18 hσ18 => fk_fX12_operator_190 hσ18 qx3))) (fun _ => fk_fX12_operator_146 h qx3))) (fun _ => fk_fX12_operator_146 h qx3))
theorem fk_fX12_operator_53 {σ0 : zSt} {σ : zSt} {x1 : Int32} {x2 : Int32} {x3 : Int32} {x4 : Int32} (h : (zQ [3, 5, 6, 7, 8, 9, 21, 22, 23, 24, 25] [(0, 31, 33)] [4, 10, 11] [(0, 30, 30)]) σ0 σ) (qx3 : zr 172 274 x3) : zpc (fX12_operator_53 σ x1 x2 x3 x4) (fun r => (zQ [3, 5, 6, 7, 8, 9, 21, 22, 23, 24, 25] [(0, 31, 33)] [4, 10, 11] [(0, 30, 30)]) σ0 (r)) := by
  unfold fX12_operator_53
  exact zpc_ck (zpc_bs (zQ.wi h rfl) (fun σ19 hσ19 => zpc_bu (fk_fX12_envelope hσ19 qx3) (fun σ20 hσ20 => zpc_ck (zpc_if (fun _ => zpc_ck (zpc_if (fun _ => fk_fX12_operator_113 hσ20 qx3) (fun _ => zpc_ck (zpc_bs (zQ.wi hσ20 rfl) (fun σ21 hσ21 => zpc_ck (zpc_bs (zQ.wi hσ21 rfl) (fun σ22 hσ22 => fk_fX12_operator_190 hσ22 qx3))))))) (fun _ => fk_fX12_operator_113 hσ20 qx3)))))
theorem fk_fX12_operator_52 {σ0 : zSt} {σ : zSt} {x1 : Int32} {x2 : Int32} {x3 : Int32} {x4 : Int32} {s0 : Int32} {s1 : Int32} (h : (zQ [3, 5, 6, 7, 8, 9, 21, 22, 23, 24, 25] [(0, 31, 33)] [4, 10, 11] [(0, 30, 30)]) σ0 σ) (qx3 : zr 172 274 x3) (qs1 : zr 172 279 s1) : zpc (fX12_operator_52 σ x1 x2 x3 x4 s0 s1) (fun r => (zQ [3, 5, 6, 7, 8, 9, 21, 22, 23, 24, 25] [(0, 31, 33)] [4, 10, 11] [(0, 30, 30)]) σ0 (r)) := by
  unfold fX12_operator_52
  exact zpc_ck (zpc_bs (zQ.wi h rfl) (fun σ23 hσ23 => fk_fX12_operator_53 hσ23 qx3))
theorem fk_fX12_operator {σ0 : zSt} {σ : zSt} {x1 : Int32} {x2 : Int32} (h : (zQ [3, 5, 6, 7, 8, 9, 21, 22, 23, 24, 25] [(0, 31, 33)] [4, 10, 11] [(0, 30, 30)]) σ0 σ) (qx1 : zr 0 8 x1) (qx2 : zr 0 1 x2) : zpc (fX12_operator σ x1 x2) (fun r => (zQ [3, 5, 6, 7, 8, 9, 21, 22, 23, 24, 25] [(0, 31, 33)] [4, 10, 11] [(0, 30, 30)]) σ0 (r)) := by
  unfold fX12_operator
  exact zpc_bv (fun v24 ev24 => zpc_bi (fk_fX12_isOn h) (fun σ25 v26 hσ25 => zpc_ck (zpc_if (fun _ => fk_fX12_operator_53 hσ25 (show zr 172 274 v24 by rw [ev24]; exact (zr_add (lo := 172) (hi := 274) (zr_c (x := 172) (lo := 172) (hi := 172) (by decide)) (zr_mul (lo := 0) (hi := 102) (zr_c (x := 6) (lo := 6) (hi := 6) (by decide)) (zr_add (lo := 0) (hi := 17) (zr_mul (lo := 0) (hi := 16) (zr_c (x := 2) (lo := 2) (hi := 2) (by decide)) qx1 (by decide)) qx2 (by decide)) (by decide)) (by decide)))) (fun _ => zpc_if (fun _ => fk_fX12_operator_52 hσ25 (show zr 172 274 v24 by rw [ev24]; exact (zr_add (lo := 172) (hi := 274) (zr_c (x := 172) (lo := 172) (hi := 172) (by decide)) (zr_mul (lo := 0) (hi := 102) (zr_c (x := 6) (lo := 6) (hi := 6) (by decide)) (zr_add (lo := 0) (hi := 17) (zr_mul (lo := 0) (hi := 16) (zr_c (x := 2) (lo := 2) (hi := 2) (by decide)) qx1 (by decide)) qx2 (by decide)) (by decide)) (by decide))) (zr_w (zr_add (lo := 173) (hi := 275) (show zr 172 274 v24 by rw [ev24]; exact (zr_add (lo := 172) (hi := 274) (zr_c (x := 172) (lo := 172) (hi := 172) (by decide)) (zr_mul (lo := 0) (hi := 102) (zr_c (x := 6) (lo := 6) (hi := 6) (by decide)) (zr_add (lo := 0) (hi := 17) (zr_mul (lo := 0) (hi := 16) (zr_c (x := 2) (lo := 2) (hi := 2) (by decide)) qx1 (by decide)) qx2 (by decide)) (by decide)) (by decide))) (zr_c (x := 1) (lo := 1) (hi := 1) (by decide)) (by decide)) (by decide))) (fun _ => fk_fX12_operator_52 hσ25 (show zr 172 274 v24 by rw [ev24]; exact (zr_add (lo := 172) (hi := 274) (zr_c (x := 172) (lo := 172) (hi := 172) (by decide)) (zr_mul (lo := 0) (hi := 102) (zr_c (x := 6) (lo := 6) (hi := 6) (by decide)) (zr_add (lo := 0) (hi := 17) (zr_mul (lo := 0) (hi := 16) (zr_c (x := 2) (lo := 2) (hi := 2) (by decide)) qx1 (by decide)) qx2 (by decide)) (by decide)) (by decide))) (zr_w (zr_add (lo := 173) (hi := 275) (show zr 172 274 v24 by rw [ev24]; exact (zr_add (lo := 172) (hi := 274) (zr_c (x := 172) (lo := 172) (hi := 172) (by decide)) (zr_mul (lo := 0) (hi := 102) (zr_c (x := 6) (lo := 6) (hi := 6) (by decide)) (zr_add (lo := 0) (hi := 17) (zr_mul (lo := 0) (hi := 16) (zr_c (x := 2) (lo := 2) (hi := 2) (by decide)) qx1 (by decide)) qx2 (by decide)) (by decide)) (by decide))) (zr_c (x := 1) (lo := 1) (hi := 1) (by decide)) (by decide)) (by decide)))))))
theorem fk_fX12_waves_20_body {σ0 : zSt} {k12 : zSt → Int32 → Option (zSt)} (hk12 : ∀ (y0 : zSt) (y1 : Int32), (zQ [3, 5, 6, 7, 8, 9, 21, 22, 23, 24, 25] [(0, 31, 33)] [4, 10, 11] [(0, 30, 30)]) σ0 y0 → zr 0 9 y1 → zpc (k12 y0 y1) (fun r => (zQ [3, 5, 6, 7, 8, 9, 21, 22, 23, 24, 25] [(0, 31, 33)] [4, 10, 11] [(0, 30, 30)]) σ0 (r))) {k20 : zSt → Int32 → Int32 → Option (zSt)} (hk20 : ∀ (y0 : zSt) (y1 : Int32) (y2 : Int32), (zQ [3, 5, 6, 7, 8, 9, 21, 22, 23, 24, 25] [(0, 31, 33)] [4, 10, 11] [(0, 30, 30)]) σ0 y0 → zr 0 8 y1 → zr 0 2 y2 → zpc (k20 y0 y1 y2) (fun r => (zQ [3, 5, 6, 7, 8, 9, 21, 22, 23, 24, 25] [(0, 31, 33)] [4, 10, 11] [(0, 30, 30)]) σ0 (r))) {σ : zSt} {x1 : Int32} {x2 : Int32} (h : (zQ [3, 5, 6, 7, 8, 9, 21, 22, 23, 24, 25] [(0, 31, 33)] [4, 10, 11] [(0, 30, 30)]) σ0 σ) (qx1 : zr 0 8 x1) (qx2 : zr 0 2 x2) : zpc (fX12_waves_20_body k12 k20 σ x1 x2) (fun r => (zQ [3, 5, 6, 7, 8, 9, 21, 22, 23, 24, 25] [(0, 31, 33)] [4, 10, 11] [(0, 30, 30)]) σ0 (r)) := by
  unfold fX12_waves_20_body
  exact zpc_if (fun g2 => zpc_bv (fun v1 ev1 => hk12 _ _ h (zr_w (show zr 1 9 v1 by rw [ev1]; exact (zr_add (lo := 1) (hi := 9) qx1 (zr_c (x := 1) (lo := 1) (hi := 1) (by decide)) (by decide))) (by decide)))) (fun g2 => zpc_bu (fk_fX12_operator h qx1 (zr_nge (k := 2) (m := 1) qx2 rfl g2 (by decide))) (fun σ2 hσ2 => zpc_bv (fun v3 ev3 => hk20 _ _ _ hσ2 qx1 (zr_w (show zr 1 2 v3 by rw [ev3]; exact (zr_add (lo := 1) (hi := 2) (zr_nge (k := 2) (m := 1) qx2 rfl g2 (by decide)) (zr_c (x := 1) (lo := 1) (hi := 1) (by decide)) (by decide))) (by decide)))))
theorem fk_fX12_waves_20 {σ0 : zSt} {k12 : zSt → Int32 → Option (zSt)} (hk12 : ∀ (y0 : zSt) (y1 : Int32), (zQ [3, 5, 6, 7, 8, 9, 21, 22, 23, 24, 25] [(0, 31, 33)] [4, 10, 11] [(0, 30, 30)]) σ0 y0 → zr 0 9 y1 → zpc (k12 y0 y1) (fun r => (zQ [3, 5, 6, 7, 8, 9, 21, 22, 23, 24, 25] [(0, 31, 33)] [4, 10, 11] [(0, 30, 30)]) σ0 (r))) : ∀ (n : Nat) (y0 : zSt) (y1 : Int32) (y2 : Int32), (zQ [3, 5, 6, 7, 8, 9, 21, 22, 23, 24, 25] [(0, 31, 33)] [4, 10, 11] [(0, 30, 30)]) σ0 y0 → zr 0 8 y1 → zr 0 2 y2 → zpc (fX12_waves_20 k12 n y0 y1 y2) (fun r => (zQ [3, 5, 6, 7, 8, 9, 21, 22, 23, 24, 25] [(0, 31, 33)] [4, 10, 11] [(0, 30, 30)]) σ0 (r)) := by
  intro n
  induction n with
  | zero => intro y0 y1 y2 h q1 q2; exact zpc_none
  | succ n ih => intro y0 y1 y2 h q1 q2; exact fk_fX12_waves_20_body hk12 ih h q1 q2
theorem fk_fX12_waves_157 {σ0 : zSt} {k82 : zSt → Int32 → Int32 → Option (zSt)} (hk82 : ∀ (y0 : zSt) (y1 : Int32) (y2 : Int32), (zQ [3, 5, 6, 7, 8, 9, 21, 22, 23, 24, 25] [(0, 31, 33)] [4, 10, 11] [(0, 30, 30)]) σ0 y0 → zpc (k82 y0 y1 y2) (fun r => (zQ [3, 5, 6, 7, 8, 9, 21, 22, 23, 24, 25] [(0, 31, 33)] [4, 10, 11] [(0, 30, 30)]) σ0 (r))) {σ : zSt} {x2 : Int32} {x3 : Int32} (h : (zQ [3, 5, 6, 7, 8, 9, 21, 22, 23, 24, 25] [(0, 31, 33)] [4, 10, 11] [(0, 30, 30)]) σ0 σ) : zpc (fX12_waves_157 k82 σ x2 x3) (fun r => (zQ [3, 5, 6, 7, 8, 9, 21, 22, 23, 24, 25] [(0, 31, 33)] [4, 10, 11] [(0, 30, 30)]) σ0 (r)) := by
  unfold fX12_waves_157
  exact zpc_bv (fun v4 _ => hk82 _ _ _ h)
theorem fk_fX12_waves_153 {σ0 : zSt} {k82 : zSt → Int32 → Int32 → Option (zSt)} (hk82 : ∀ (y0 : zSt) (y1 : Int32) (y2 : Int32), (zQ [3, 5, 6, 7, 8, 9, 21, 22, 23, 24, 25] [(0, 31, 33)] [4, 10, 11] [(0, 30, 30)]) σ0 y0 → zpc (k82 y0 y1 y2) (fun r => (zQ [3, 5, 6, 7, 8, 9, 21, 22, 23, 24, 25] [(0, 31, 33)] [4, 10, 11] [(0, 30, 30)]) σ0 (r))) {σ : zSt} {x3 : Int32} {s0 : Int32} {s1 : Int32} {s2 : Int32} {s3 : Int32} (h : (zQ [3, 5, 6, 7, 8, 9, 21, 22, 23, 24, 25] [(0, 31, 33)] [4, 10, 11] [(0, 30, 30)]) σ0 σ) : zpc (fX12_waves_153 k82 σ x3 s0 s1 s2 s3) (fun r => (zQ [3, 5, 6, 7, 8, 9, 21, 22, 23, 24, 25] [(0, 31, 33)] [4, 10, 11] [(0, 30, 30)]) σ0 (r)) := by
  unfold fX12_waves_153
  exact zpc_bv (fun v5 _ => fk_fX12_waves_157 hk82 h)
theorem fk_fX12_waves_82_body {σ0 : zSt} {k82 : zSt → Int32 → Int32 → Option (zSt)} (hk82 : ∀ (y0 : zSt) (y1 : Int32) (y2 : Int32), (zQ [3, 5, 6, 7, 8, 9, 21, 22, 23, 24, 25] [(0, 31, 33)] [4, 10, 11] [(0, 30, 30)]) σ0 y0 → zpc (k82 y0 y1 y2) (fun r => (zQ [3, 5, 6, 7, 8, 9, 21, 22, 23, 24, 25] [(0, 31, 33)] [4, 10, 11] [(0, 30, 30)]) σ0 (r))) {σ : zSt} {x2 : Int32} {x3 : Int32} (h : (zQ [3, 5, 6, 7, 8, 9, 21, 22, 23, 24, 25] [(0, 31, 33)] [4, 10, 11] [(0, 30, 30)]) σ0 σ) : zpc (fX12_waves_82_body k82 σ x2 x3) (fun r => (zQ [3, 5, 6, 7, 8, 9, 21, 22, 23, 24, 25] [(0, 31, 33)] [4, 10, 11] [(0, 30, 30)]) σ0 (r)) := by
  unfold fX12_waves_82_body
  exact zpc_if (fun _ => zpc_ck (zpc_bs (zQ.wi h rfl) (fun σ6 hσ6 => zpc_some hσ6))) (fun _ => zpc_bv (fun v7 _ => zpc_bi (fk_fX12_isRhythm h) (fun σ8 v9 hσ8 => zpc_if (fun _ => zpc_ck (zpc_bv (fun v10 _ => fk_fX12_waves_157 hk82 hσ8))) (fun _ => zpc_ck (zpc_if (fun _ => fk_fX12_waves_153 hk82 hσ8) (fun _ => zpc_ck (fk_fX12_waves_153 hk82 hσ8)))))))
theorem fk_fX12_waves_82 {σ0 : zSt} : ∀ (n : Nat) (y0 : zSt) (y1 : Int32) (y2 : Int32), (zQ [3, 5, 6, 7, 8, 9, 21, 22, 23, 24, 25] [(0, 31, 33)] [4, 10, 11] [(0, 30, 30)]) σ0 y0 → zpc (fX12_waves_82 n y0 y1 y2) (fun r => (zQ [3, 5, 6, 7, 8, 9, 21, 22, 23, 24, 25] [(0, 31, 33)] [4, 10, 11] [(0, 30, 30)]) σ0 (r)) := by
  intro n
  induction n with
  | zero => intro y0 y1 y2 h; exact zpc_none
  | succ n ih => intro y0 y1 y2 h; exact fk_fX12_waves_82_body ih h
theorem fk_fX12_waves_75 {σ0 : zSt} {σ : zSt} {s0 : Int32} {s1 : Int32} (h : (zQ [3, 5, 6, 7, 8, 9, 21, 22, 23, 24, 25] [(0, 31, 33)] [4, 10, 11] [(0, 30, 30)]) σ0 σ) (qs1 : zr 164 164 s1) : zpc (fX12_waves_75 σ s0 s1) (fun r => (zQ [3, 5, 6, 7, 8, 9, 21, 22, 23, 24, 25] [(0, 31, 33)] [4, 10, 11] [(0, 30, 30)]) σ0 (r)) := by
  unfold fX12_waves_75
  exact zpc_ck (zpc_bs (zQ.wi h rfl) (fun σ11 hσ11 => fk_fX12_waves_82 _ _ _ _ hσ11))
theorem fk_fX12_waves_12_body {σ0 : zSt} {k12 : zSt → Int32 → Option (zSt)} (hk12 : ∀ (y0 : zSt) (y1 : Int32), (zQ [3, 5, 6, 7, 8, 9, 21, 22, 23, 24, 25] [(0, 31, 33)] [4, 10, 11] [(0, 30, 30)]) σ0 y0 → zr 0 9 y1 → zpc (k12 y0 y1) (fun r => (zQ [3, 5, 6, 7, 8, 9, 21, 22, 23, 24, 25] [(0, 31, 33)] [4, 10, 11] [(0, 30, 30)]) σ0 (r))) {σ : zSt} {x1 : Int32} (h : (zQ [3, 5, 6, 7, 8, 9, 21, 22, 23, 24, 25] [(0, 31, 33)] [4, 10, 11] [(0, 30, 30)]) σ0 σ) (qx1 : zr 0 9 x1) : zpc (fX12_waves_12_body k12 σ x1) (fun r => (zQ [3, 5, 6, 7, 8, 9, 21, 22, 23, 24, 25] [(0, 31, 33)] [4, 10, 11] [(0, 30, 30)]) σ0 (r)) := by
  unfold fX12_waves_12_body
  exact zpc_if (fun g3 => zpc_ck (zpc_bv (fun v12 _ => zpc_if (fun _ => fk_fX12_waves_75 h (zr_c (x := 164) (lo := 164) (hi := 164) (by decide))) (fun _ => fk_fX12_waves_75 h (zr_c (x := 164) (lo := 164) (hi := 164) (by decide)))))) (fun g3 => fk_fX12_waves_20 hk12 _ _ _ _ h (zr_nge (k := 9) (m := 8) qx1 rfl g3 (by decide)) (zr_w (zr_c (x := 0) (lo := 0) (hi := 0) (by decide)) (by decide)))
theorem fk_fX12_waves_12 {σ0 : zSt} : ∀ (n : Nat) (y0 : zSt) (y1 : Int32), (zQ [3, 5, 6, 7, 8, 9, 21, 22, 23, 24, 25] [(0, 31, 33)] [4, 10, 11] [(0, 30, 30)]) σ0 y0 → zr 0 9 y1 → zpc (fX12_waves_12 n y0 y1) (fun r => (zQ [3, 5, 6, 7, 8, 9, 21, 22, 23, 24, 25] [(0, 31, 33)] [4, 10, 11] [(0, 30, 30)]) σ0 (r)) := by
  intro n
  induction n with
  | zero => intro y0 y1 h q1; exact zpc_none
  | succ n ih => intro y0 y1 h q1; exact fk_fX12_waves_12_body ih h q1
theorem fk_fX12_waves {σ0 : zSt} {σ : zSt} (h : (zQ [3, 5, 6, 7, 8, 9, 21, 22, 23, 24, 25] [(0, 31, 33)] [4, 10, 11] [(0, 30, 30)]) σ0 σ) : zpc (fX12_waves σ) (fun r => (zQ [3, 5, 6, 7, 8, 9, 21, 22, 23, 24, 25] [(0, 31, 33)] [4, 10, 11] [(0, 30, 30)]) σ0 (r)) := by
  unfold fX12_waves
  exact zpc_ck (zpc_ck (zpc_bs (zQ.wl h rfl) (fun σ13 hσ13 => fk_fX12_waves_12 _ _ _ hσ13 (zr_w (zr_c (x := 0) (lo := 0) (hi := 0) (by decide)) (by decide)))))
theorem fk_fX12_mixed_151 {σ0 : zSt} {σ : zSt} {x2 : Int64} (h : (zQ [3, 5, 6, 7, 8, 9, 21, 22, 23, 24, 25] [(0, 31, 33)] [4, 10, 11] [(0, 30, 30)]) σ0 σ) : zpc (fX12_mixed_151 σ x2) (fun r => (zQ [3, 5, 6, 7, 8, 9, 21, 22, 23, 24, 25] [(0, 31, 33)] [4, 10, 11] [(0, 30, 30)]) σ0 (r)) := by
  unfold fX12_mixed_151
  exact zpc_ck (zpc_ck (zpc_ck (zpc_ck (zpc_bs (zQ.wl h rfl) (fun σ1 hσ1 => zpc_some hσ1)))))
theorem fk_fX12_mixed_76_body {σ0 : zSt} {k76 : zSt → Int64 → Int32 → Option (zSt)} (hk76 : ∀ (y0 : zSt) (y1 : Int64) (y2 : Int32), (zQ [3, 5, 6, 7, 8, 9, 21, 22, 23, 24, 25] [(0, 31, 33)] [4, 10, 11] [(0, 30, 30)]) σ0 y0 → zr 0 3 y2 → zpc (k76 y0 y1 y2) (fun r => (zQ [3, 5, 6, 7, 8, 9, 21, 22, 23, 24, 25] [(0, 31, 33)] [4, 10, 11] [(0, 30, 30)]) σ0 (r))) {σ : zSt} {x2 : Int64} {x4 : Int32} (h : (zQ [3, 5, 6, 7, 8, 9, 21, 22, 23, 24, 25] [(0, 31, 33)] [4, 10, 11] [(0, 30, 30)]) σ0 σ) (qx4 : zr 0 3 x4) : zpc (fX12_mixed_76_body k76 σ x2 x4) (fun r => (zQ [3, 5, 6, 7, 8, 9, 21, 22, 23, 24, 25] [(0, 31, 33)] [4, 10, 11] [(0, 30, 30)]) σ0 (r)) := by
  unfold fX12_mixed_76_body
  exact zpc_if (fun g4 => zpc_ck (zpc_if (fun _ => zpc_ck (zpc_ck (zpc_ck (zpc_bs (zQ.wi h rfl) (fun σ3 hσ3 => fk_fX12_mixed_151 hσ3))))) (fun _ => zpc_ck (zpc_ck (zpc_bs (zQ.wi h rfl) (fun σ2 hσ2 => fk_fX12_mixed_151 hσ2)))))) (fun g4 => zpc_ck (zpc_bs (zQ.wi h rfl) (fun σ4 hσ4 => zpc_bv (fun v5 ev5 => hk76 _ _ _ hσ4 (zr_w (show zr 1 3 v5 by rw [ev5]; exact (zr_add (lo := 1) (hi := 3) (zr_nge (k := 3) (m := 2) qx4 rfl g4 (by decide)) (zr_c (x := 1) (lo := 1) (hi := 1) (by decide)) (by decide))) (by decide))))))
theorem fk_fX12_mixed_76 {σ0 : zSt} : ∀ (n : Nat) (y0 : zSt) (y1 : Int64) (y2 : Int32), (zQ [3, 5, 6, 7, 8, 9, 21, 22, 23, 24, 25] [(0, 31, 33)] [4, 10, 11] [(0, 30, 30)]) σ0 y0 → zr 0 3 y2 → zpc (fX12_mixed_76 n y0 y1 y2) (fun r => (zQ [3, 5, 6, 7, 8, 9, 21, 22, 23, 24, 25] [(0, 31, 33)] [4, 10, 11] [(0, 30, 30)]) σ0 (r)) := by
  intro n
  induction n with
  | zero => intro y0 y1 y2 h q2; exact zpc_none
  | succ n ih => intro y0 y1 y2 h q2; exact fk_fX12_mixed_76_body ih h q2
theorem fk_fX12_mixed_26 {σ0 : zSt} {σ : zSt} {s0 : Int32} (h : (zQ [3, 5, 6, 7, 8, 9, 21, 22, 23, 24, 25] [(0, 31, 33)] [4, 10, 11] [(0, 30, 30)]) σ0 σ) : zpc (fX12_mixed_26 σ s0) (fun r => (zQ [3, 5, 6, 7, 8, 9, 21, 22, 23, 24, 25] [(0, 31, 33)] [4, 10, 11] [(0, 30, 30)]) σ0 (r)) := by
  unfold fX12_mixed_26
  exact zpc_ck (zpc_ck (zpc_ck (zpc_ck (zpc_ck (zpc_ck (zpc_bv (fun v6 _ => fk_fX12_mixed_76 _ _ _ _ h (zr_w (zr_c (x := 0) (lo := 0) (hi := 0) (by decide)) (by decide)))))))))
theorem fk_fX12_mixed {σ0 : zSt} {σ : zSt} (h : (zQ [3, 5, 6, 7, 8, 9, 21, 22, 23, 24, 25] [(0, 31, 33)] [4, 10, 11] [(0, 30, 30)]) σ0 σ) : zpc (fX12_mixed σ) (fun r => (zQ [3, 5, 6, 7, 8, 9, 21, 22, 23, 24, 25] [(0, 31, 33)] [4, 10, 11] [(0, 30, 30)]) σ0 (r)) := by
  unfold fX12_mixed
  exact zpc_ck (zpc_if (fun _ => zpc_ck (fk_fX12_mixed_26 h)) (fun _ => fk_fX12_mixed_26 h))
theorem fk_fX12_asks_48 {σ0 : zSt} {σ : zSt} {s0 : Int32} (h : (zQ [3, 5, 6, 7, 8, 9, 21, 22, 23, 24, 25] [(0, 31, 33)] [4, 10, 11] [(0, 30, 30)]) σ0 σ) : zpc (fX12_asks_48 σ s0) (fun r => (zQ [3, 5, 6, 7, 8, 9, 21, 22, 23, 24, 25] [(0, 31, 33)] [4, 10, 11] [(0, 30, 30)]) σ0 (r.1)) := by
  unfold fX12_asks_48
  exact zpc_ck (zpc_some h)
theorem fk_fX12_asks_47 {σ0 : zSt} {σ : zSt} (h : (zQ [3, 5, 6, 7, 8, 9, 21, 22, 23, 24, 25] [(0, 31, 33)] [4, 10, 11] [(0, 30, 30)]) σ0 σ) : zpc (fX12_asks_47 σ) (fun r => (zQ [3, 5, 6, 7, 8, 9, 21, 22, 23, 24, 25] [(0, 31, 33)] [4, 10, 11] [(0, 30, 30)]) σ0 (r.1)) := by
  unfold fX12_asks_47
  exact fk_fX12_asks_48 h
theorem fk_fX12_asks_43 {σ0 : zSt} {σ : zSt} (h : (zQ [3, 5, 6, 7, 8, 9, 21, 22, 23, 24, 25] [(0, 31, 33)] [4, 10, 11] [(0, 30, 30)]) σ0 σ) : zpc (fX12_asks_43 σ) (fun r => (zQ [3, 5, 6, 7, 8, 9, 21, 22, 23, 24, 25] [(0, 31, 33)] [4, 10, 11] [(0, 30, 30)]) σ0 (r.1)) := by
  unfold fX12_asks_43
  exact fk_fX12_asks_48 h
theorem fk_fX12_asks_22 {σ0 : zSt} {σ : zSt} (h : (zQ [3, 5, 6, 7, 8, 9, 21, 22, 23, 24, 25] [(0, 31, 33)] [4, 10, 11] [(0, 30, 30)]) σ0 σ) : zpc (fX12_asks_22 σ) (fun r => (zQ [3, 5, 6, 7, 8, 9, 21, 22, 23, 24, 25] [(0, 31, 33)] [4, 10, 11] [(0, 30, 30)]) σ0 (r.1)) := by
  unfold fX12_asks_22
  exact zpc_bi (fk_fX12_bit h) (fun σ1 v2 hσ1 => zpc_if (fun _ => zpc_ck (zpc_if (fun _ => fk_fX12_asks_43 hσ1) (fun _ => fk_fX12_asks_47 hσ1))) (fun _ => fk_fX12_asks_47 hσ1))
theorem fk_fX12_asks {σ0 : zSt} {σ : zSt} (h : (zQ [3, 5, 6, 7, 8, 9, 21, 22, 23, 24, 25] [(0, 31, 33)] [4, 10, 11] [(0, 30, 30)]) σ0 σ) : zpc (fX12_asks σ) (fun r => (zQ [3, 5, 6, 7, 8, 9, 21, 22, 23, 24, 25] [(0, 31, 33)] [4, 10, 11] [(0, 30, 30)]) σ0 (r.1)) := by
  unfold fX12_asks
  exact zpc_bi (fk_fX12_bit h) (fun σ3 v4 hσ3 => zpc_if (fun _ => zpc_ck (zpc_if (fun _ => fk_fX12_asks_43 hσ3) (fun _ => fk_fX12_asks_22 hσ3))) (fun _ => fk_fX12_asks_22 hσ3))
theorem fk_fX12_once_377_body {σ0 : zSt} {k377 : zSt → Int64 → Option (zSt)} (hk377 : ∀ (y0 : zSt) (y1 : Int64), (zQ [3, 5, 6, 7, 8, 9, 21, 22, 23, 24, 25] [(0, 31, 33)] [4, 10, 11] [(0, 30, 30)]) σ0 y0 → zpc (k377 y0 y1) (fun r => (zQ [3, 5, 6, 7, 8, 9, 21, 22, 23, 24, 25] [(0, 31, 33)] [4, 10, 11] [(0, 30, 30)]) σ0 (r))) {σ : zSt} {x5 : Int64} (h : (zQ [3, 5, 6, 7, 8, 9, 21, 22, 23, 24, 25] [(0, 31, 33)] [4, 10, 11] [(0, 30, 30)]) σ0 σ) : zpc (fX12_once_377_body k377 σ x5) (fun r => (zQ [3, 5, 6, 7, 8, 9, 21, 22, 23, 24, 25] [(0, 31, 33)] [4, 10, 11] [(0, 30, 30)]) σ0 (r)) := by
  unfold fX12_once_377_body
  exact zpc_ck (zpc_ck (zpc_if (fun _ => zpc_some h) (fun _ => zpc_bu (fk_fX12_mixed h) (fun σ1 hσ1 => zpc_bv (fun v2 _ => hk377 _ _ hσ1)))))
theorem fk_fX12_once_377 {σ0 : zSt} : ∀ (n : Nat) (y0 : zSt) (y1 : Int64), (zQ [3, 5, 6, 7, 8, 9, 21, 22, 23, 24, 25] [(0, 31, 33)] [4, 10, 11] [(0, 30, 30)]) σ0 y0 → zpc (fX12_once_377 n y0 y1) (fun r => (zQ [3, 5, 6, 7, 8, 9, 21, 22, 23, 24, 25] [(0, 31, 33)] [4, 10, 11] [(0, 30, 30)]) σ0 (r)) := by
  intro n
  induction n with
  | zero => intro y0 y1 h; exact zpc_none
  | succ n ih => intro y0 y1 h; exact fk_fX12_once_377_body ih h
theorem fk_fX12_once_341_body {σ0 : zSt} {k341 : zSt → Int64 → Int64 → Option (zSt)} (hk341 : ∀ (y0 : zSt) (y1 : Int64) (y2 : Int64), (zQ [3, 5, 6, 7, 8, 9, 21, 22, 23, 24, 25] [(0, 31, 33)] [4, 10, 11] [(0, 30, 30)]) σ0 y0 → zpc (k341 y0 y1 y2) (fun r => (zQ [3, 5, 6, 7, 8, 9, 21, 22, 23, 24, 25] [(0, 31, 33)] [4, 10, 11] [(0, 30, 30)]) σ0 (r))) {σ : zSt} {x3 : Int64} {x5 : Int64} (h : (zQ [3, 5, 6, 7, 8, 9, 21, 22, 23, 24, 25] [(0, 31, 33)] [4, 10, 11] [(0, 30, 30)]) σ0 σ) : zpc (fX12_once_341_body k341 σ x3 x5) (fun r => (zQ [3, 5, 6, 7, 8, 9, 21, 22, 23, 24, 25] [(0, 31, 33)] [4, 10, 11] [(0, 30, 30)]) σ0 (r)) := by
  unfold fX12_once_341_body
  exact zpc_ck (zpc_ck (zpc_if (fun _ => zpc_ck (zpc_bv (fun v3 _ => fk_fX12_once_377 _ _ _ h))) (fun _ => zpc_bu (fk_fX12_waves h) (fun σ4 hσ4 => zpc_bv (fun v5 _ => hk341 _ _ _ hσ4)))))
theorem fk_fX12_once_341 {σ0 : zSt} : ∀ (n : Nat) (y0 : zSt) (y1 : Int64) (y2 : Int64), (zQ [3, 5, 6, 7, 8, 9, 21, 22, 23, 24, 25] [(0, 31, 33)] [4, 10, 11] [(0, 30, 30)]) σ0 y0 → zpc (fX12_once_341 n y0 y1 y2) (fun r => (zQ [3, 5, 6, 7, 8, 9, 21, 22, 23, 24, 25] [(0, 31, 33)] [4, 10, 11] [(0, 30, 30)]) σ0 (r)) := by
  intro n
  induction n with
  | zero => intro y0 y1 y2 h; exact zpc_none
  | succ n ih => intro y0 y1 y2 h; exact fk_fX12_once_341_body ih h
theorem fk_fX12_once_305_body {σ0 : zSt} {k305 : zSt → Int64 → Int64 → Option (zSt)} (hk305 : ∀ (y0 : zSt) (y1 : Int64) (y2 : Int64), (zQ [3, 5, 6, 7, 8, 9, 21, 22, 23, 24, 25] [(0, 31, 33)] [4, 10, 11] [(0, 30, 30)]) σ0 y0 → zpc (k305 y0 y1 y2) (fun r => (zQ [3, 5, 6, 7, 8, 9, 21, 22, 23, 24, 25] [(0, 31, 33)] [4, 10, 11] [(0, 30, 30)]) σ0 (r))) {σ : zSt} {x3 : Int64} {x5 : Int64} (h : (zQ [3, 5, 6, 7, 8, 9, 21, 22, 23, 24, 25] [(0, 31, 33)] [4, 10, 11] [(0, 30, 30)]) σ0 σ) : zpc (fX12_once_305_body k305 σ x3 x5) (fun r => (zQ [3, 5, 6, 7, 8, 9, 21, 22, 23, 24, 25] [(0, 31, 33)] [4, 10, 11] [(0, 30, 30)]) σ0 (r)) := by
  unfold fX12_once_305_body
  exact zpc_ck (zpc_ck (zpc_if (fun _ => zpc_ck (zpc_bv (fun v6 _ => fk_fX12_once_341 _ _ _ _ h))) (fun _ => zpc_bu (fk_fX12_sample h) (fun σ7 hσ7 => zpc_bv (fun v8 _ => hk305 _ _ _ hσ7)))))
theorem fk_fX12_once_305 {σ0 : zSt} : ∀ (n : Nat) (y0 : zSt) (y1 : Int64) (y2 : Int64), (zQ [3, 5, 6, 7, 8, 9, 21, 22, 23, 24, 25] [(0, 31, 33)] [4, 10, 11] [(0, 30, 30)]) σ0 y0 → zpc (fX12_once_305 n y0 y1 y2) (fun r => (zQ [3, 5, 6, 7, 8, 9, 21, 22, 23, 24, 25] [(0, 31, 33)] [4, 10, 11] [(0, 30, 30)]) σ0 (r)) := by
  intro n
  induction n with
  | zero => intro y0 y1 y2 h; exact zpc_none
  | succ n ih => intro y0 y1 y2 h; exact fk_fX12_once_305_body ih h
theorem fk_fX12_once_298 {σ0 : zSt} {σ : zSt} {x3 : Int64} (h : (zQ [3, 5, 6, 7, 8, 9, 21, 22, 23, 24, 25] [(0, 31, 33)] [4, 10, 11] [(0, 30, 30)]) σ0 σ) : zpc (fX12_once_298 σ x3) (fun r => (zQ [3, 5, 6, 7, 8, 9, 21, 22, 23, 24, 25] [(0, 31, 33)] [4, 10, 11] [(0, 30, 30)]) σ0 (r)) := by
  unfold fX12_once_298
  exact zpc_ck (zpc_bv (fun v9 _ => fk_fX12_once_305 _ _ _ _ h))
theorem fk_fX12_once_229 {σ0 : zSt} {σ : zSt} {x2 : Int32} (h : (zQ [3, 5, 6, 7, 8, 9, 21, 22, 23, 24, 25] [(0, 31, 33)] [4, 10, 11] [(0, 30, 30)]) σ0 σ) : zpc (fX12_once_229 σ x2) (fun r => (zQ [3, 5, 6, 7, 8, 9, 21, 22, 23, 24, 25] [(0, 31, 33)] [4, 10, 11] [(0, 30, 30)]) σ0 (r)) := by
  unfold fX12_once_229
  exact zpc_ck (zpc_ck (zpc_bs (zQ.wl h rfl) (fun σ10 hσ10 => zpc_ck (zpc_bv (fun v11 _ => zpc_ck (zpc_ck (zpc_bs (zQ.wl hσ10 rfl) (fun σ12 hσ12 => zpc_ck (zpc_ck (zpc_bs (zQ.wi hσ12 rfl) (fun σ13 hσ13 => zpc_ck (zpc_if (fun _ => fk_fX12_once_298 hσ13) (fun _ => zpc_ck (zpc_ck (zpc_bs (zQ.wi hσ13 rfl) (fun σ14 hσ14 => zpc_bu (fk_fX12_ends hσ14) (fun σ15 hσ15 => fk_fX12_once_298 hσ15)))))))))))))))))
theorem fk_fX12_once_204 {σ0 : zSt} {σ : zSt} (h : (zQ [3, 5, 6, 7, 8, 9, 21, 22, 23, 24, 25] [(0, 31, 33)] [4, 10, 11] [(0, 30, 30)]) σ0 σ) : zpc (fX12_once_204 σ) (fun r => (zQ [3, 5, 6, 7, 8, 9, 21, 22, 23, 24, 25] [(0, 31, 33)] [4, 10, 11] [(0, 30, 30)]) σ0 (r)) := by
  unfold fX12_once_204
  exact zpc_ck (zpc_if (fun _ => zpc_bu (fk_fX12_grows h) (fun σ18 hσ18 => fk_fX12_once_229 hσ18)) (fun _ => zpc_bi (fk_fX12_instruction h) (fun σ16 v17 hσ16 => fk_fX12_once_229 hσ16)))
theorem fk_fX12_once_200 {σ0 : zSt} {σ : zSt} {s0 : Int32} (h : (zQ [3, 5, 6, 7, 8, 9, 21, 22, 23, 24, 25] [(0, 31, 33)] [4, 10, 11] [(0, 30, 30)]) σ0 σ) : zpc (fX12_once_200 σ s0) (fun r => (zQ [3, 5, 6, 7, 8, 9, 21, 22, 23, 24, 25] [(0, 31, 33)] [4, 10, 11] [(0, 30, 30)]) σ0 (r)) := by
  unfold fX12_once_200
  exact fk_fX12_once_229 h
theorem fk_fX12_once_179 {σ0 : zSt} {σ : zSt} {s0 : Int32} (h : (zQ [3, 5, 6, 7, 8, 9, 21, 22, 23, 24, 25] [(0, 31, 33)] [4, 10, 11] [(0, 30, 30)]) σ0 σ) : zpc (fX12_once_179 σ s0) (fun r => (zQ [3, 5, 6, 7, 8, 9, 21, 22, 23, 24, 25] [(0, 31, 33)] [4, 10, 11] [(0, 30, 30)]) σ0 (r)) := by
  unfold fX12_once_179
  exact zpc_bu (fk_fX12_call h) (fun σ19 hσ19 => zpc_ck (zpc_if (fun _ => fk_fX12_once_200 hσ19) (fun _ => fk_fX12_once_200 hσ19)))
theorem fk_fX12_once_102 {σ0 : zSt} {σ : zSt} {x1 : Int32} (h : (zQ [3, 5, 6, 7, 8, 9, 21, 22, 23, 24, 25] [(0, 31, 33)] [4, 10, 11] [(0, 30, 30)]) σ0 σ) : zpc (fX12_once_102 σ x1) (fun r => (zQ [3, 5, 6, 7, 8, 9, 21, 22, 23, 24, 25] [(0, 31, 33)] [4, 10, 11] [(0, 30, 30)]) σ0 (r)) := by
  unfold fX12_once_102
  exact zpc_ck (zpc_if (fun _ => zpc_if (fun _ => fk_fX12_once_204 h) (fun _ => zpc_bi (fk_fX12_asks h) (fun σ20 v21 hσ20 => zpc_if (fun _ => fk_fX12_once_204 hσ20) (fun _ => zpc_ck (zpc_bs (zQ.wi hσ20 rfl) (fun σ22 hσ22 => zpc_ck (zpc_bs (zQ.wi hσ22 rfl) (fun σ23 hσ23 => zpc_bu (fk_fX12_answers hσ23) (fun σ24 hσ24 => zpc_ck (zpc_if (fun _ => zpc_ck (zpc_bi (fk_fX12_word hσ24) (fun σ25 v26 hσ25 => fk_fX12_once_179 hσ25))) (fun _ => fk_fX12_once_179 hσ24))))))))))) (fun _ => fk_fX12_once_204 h))
theorem fk_fX12_once_46 {σ0 : zSt} {σ : zSt} {s0 : Int32} (h : (zQ [3, 5, 6, 7, 8, 9, 21, 22, 23, 24, 25] [(0, 31, 33)] [4, 10, 11] [(0, 30, 30)]) σ0 σ) : zpc (fX12_once_46 σ s0) (fun r => (zQ [3, 5, 6, 7, 8, 9, 21, 22, 23, 24, 25] [(0, 31, 33)] [4, 10, 11] [(0, 30, 30)]) σ0 (r)) := by
  unfold fX12_once_46
  exact zpc_ck (zpc_bs (zQ.wi h rfl) (fun σ27 hσ27 => zpc_ck (zpc_if (fun _ => zpc_if (fun _ => fk_fX12_once_102 hσ27) (fun _ => zpc_ck (zpc_bs (zQ.wi hσ27 rfl) (fun σ28 hσ28 => zpc_ck (zpc_bs (zQ.wi hσ28 rfl) (fun σ29 hσ29 => zpc_bu (fk_fX12_answers hσ29) (fun σ30 hσ30 => zpc_bu (fk_fX12_call hσ30) (fun σ31 hσ31 => fk_fX12_once_229 hσ31)))))))) (fun _ => fk_fX12_once_102 hσ27))))
theorem fk_fX12_once {σ0 : zSt} {σ : zSt} (h : (zQ [3, 5, 6, 7, 8, 9, 21, 22, 23, 24, 25] [(0, 31, 33)] [4, 10, 11] [(0, 30, 30)]) σ0 σ) : zpc (fX12_once σ) (fun r => (zQ [3, 5, 6, 7, 8, 9, 21, 22, 23, 24, 25] [(0, 31, 33)] [4, 10, 11] [(0, 30, 30)]) σ0 (r)) := by
  unfold fX12_once
  exact zpc_ck (zpc_ck (zpc_ck (zpc_bs (zQ.wi h rfl) (fun σ32 hσ32 => zpc_bs (zQ.wl hσ32 rfl) (fun σ33 hσ33 => zpc_ck (zpc_if (fun _ => fk_fX12_once_46 hσ33) (fun _ => fk_fX12_once_46 hσ33)))))))
theorem fk_fX12_isStop_2_body {σ0 : zSt} {k2 : zSt → Int32 → Int32 → Option (zSt × Int32)} (hk2 : ∀ (y0 : zSt) (y1 : Int32) (y2 : Int32), (zQ [3, 5, 6, 7, 8, 9, 21, 22, 23, 24, 25] [(0, 31, 33)] [4, 10, 11] [(0, 30, 30)]) σ0 y0 → zpc (k2 y0 y1 y2) (fun r => (zQ [3, 5, 6, 7, 8, 9, 21, 22, 23, 24, 25] [(0, 31, 33)] [4, 10, 11] [(0, 30, 30)]) σ0 (r.1))) {σ : zSt} {x1 : Int32} {x2 : Int32} (h : (zQ [3, 5, 6, 7, 8, 9, 21, 22, 23, 24, 25] [(0, 31, 33)] [4, 10, 11] [(0, 30, 30)]) σ0 σ) : zpc (fX12_isStop_2_body k2 σ x1 x2) (fun r => (zQ [3, 5, 6, 7, 8, 9, 21, 22, 23, 24, 25] [(0, 31, 33)] [4, 10, 11] [(0, 30, 30)]) σ0 (r.1)) := by
  unfold fX12_isStop_2_body
  exact zpc_ck (zpc_if (fun _ => zpc_ck (zpc_some h)) (fun _ => zpc_ck (zpc_if (fun _ => zpc_ck (zpc_some h)) (fun _ => zpc_bv (fun v1 _ => hk2 _ _ _ h)))))
theorem fk_fX12_isStop_2 {σ0 : zSt} : ∀ (n : Nat) (y0 : zSt) (y1 : Int32) (y2 : Int32), (zQ [3, 5, 6, 7, 8, 9, 21, 22, 23, 24, 25] [(0, 31, 33)] [4, 10, 11] [(0, 30, 30)]) σ0 y0 → zpc (fX12_isStop_2 n y0 y1 y2) (fun r => (zQ [3, 5, 6, 7, 8, 9, 21, 22, 23, 24, 25] [(0, 31, 33)] [4, 10, 11] [(0, 30, 30)]) σ0 (r.1)) := by
  intro n
  induction n with
  | zero => intro y0 y1 y2 h; exact zpc_none
  | succ n ih => intro y0 y1 y2 h; exact fk_fX12_isStop_2_body ih h
theorem fk_fX12_isStop {σ0 : zSt} {σ : zSt} {x1 : Int32} (h : (zQ [3, 5, 6, 7, 8, 9, 21, 22, 23, 24, 25] [(0, 31, 33)] [4, 10, 11] [(0, 30, 30)]) σ0 σ) : zpc (fX12_isStop σ x1) (fun r => (zQ [3, 5, 6, 7, 8, 9, 21, 22, 23, 24, 25] [(0, 31, 33)] [4, 10, 11] [(0, 30, 30)]) σ0 (r.1)) := by
  unfold fX12_isStop
  exact fk_fX12_isStop_2 _ _ _ _ h
theorem fk_fX12_step_62 {σ0 : zSt} {σ : zSt} {x2 : Int32} (h : (zQ [3, 5, 6, 7, 8, 9, 21, 22, 23, 24, 25] [(0, 31, 33)] [4, 10, 11] [(0, 30, 30)]) σ0 σ) : zpc (fX12_step_62 σ x2) (fun r => (zQ [3, 5, 6, 7, 8, 9, 21, 22, 23, 24, 25] [(0, 31, 33)] [4, 10, 11] [(0, 30, 30)]) σ0 (r.1)) := by
  unfold fX12_step_62
  exact zpc_some h
theorem fk_fX12_step_52 {σ0 : zSt} {k29 : zSt → Int32 → Int32 → Option (zSt × Int32)} (hk29 : ∀ (y0 : zSt) (y1 : Int32) (y2 : Int32), (zQ [3, 5, 6, 7, 8, 9, 21, 22, 23, 24, 25] [(0, 31, 33)] [4, 10, 11] [(0, 30, 30)]) σ0 y0 → zpc (k29 y0 y1 y2) (fun r => (zQ [3, 5, 6, 7, 8, 9, 21, 22, 23, 24, 25] [(0, 31, 33)] [4, 10, 11] [(0, 30, 30)]) σ0 (r.1))) {σ : zSt} {x1 : Int32} {x2 : Int32} (h : (zQ [3, 5, 6, 7, 8, 9, 21, 22, 23, 24, 25] [(0, 31, 33)] [4, 10, 11] [(0, 30, 30)]) σ0 σ) : zpc (fX12_step_52 k29 σ x1 x2) (fun r => (zQ [3, 5, 6, 7, 8, 9, 21, 22, 23, 24, 25] [(0, 31, 33)] [4, 10, 11] [(0, 30, 30)]) σ0 (r.1)) := by
  unfold fX12_step_52
  exact zpc_bu (fk_fX12_once h) (fun σ1 hσ1 => zpc_bv (fun v2 _ => hk29 _ _ _ hσ1))
theorem fk_fX12_step_29_body {σ0 : zSt} {k29 : zSt → Int32 → Int32 → Option (zSt × Int32)} (hk29 : ∀ (y0 : zSt) (y1 : Int32) (y2 : Int32), (zQ [3, 5, 6, 7, 8, 9, 21, 22, 23, 24, 25] [(0, 31, 33)] [4, 10, 11] [(0, 30, 30)]) σ0 y0 → zpc (k29 y0 y1 y2) (fun r => (zQ [3, 5, 6, 7, 8, 9, 21, 22, 23, 24, 25] [(0, 31, 33)] [4, 10, 11] [(0, 30, 30)]) σ0 (r.1))) {σ : zSt} {x1 : Int32} {x2 : Int32} (h : (zQ [3, 5, 6, 7, 8, 9, 21, 22, 23, 24, 25] [(0, 31, 33)] [4, 10, 11] [(0, 30, 30)]) σ0 σ) : zpc (fX12_step_29_body k29 σ x1 x2) (fun r => (zQ [3, 5, 6, 7, 8, 9, 21, 22, 23, 24, 25] [(0, 31, 33)] [4, 10, 11] [(0, 30, 30)]) σ0 (r.1)) := by
  unfold fX12_step_29_body
  exact zpc_if (fun _ => fk_fX12_step_62 h) (fun _ => zpc_if (fun _ => fk_fX12_step_52 hk29 h) (fun _ => zpc_ck (zpc_bi (fk_fX12_isStop h) (fun σ3 v4 hσ3 => zpc_if (fun _ => fk_fX12_step_52 hk29 hσ3) (fun _ => fk_fX12_step_62 hσ3)))))
theorem fk_fX12_step_29 {σ0 : zSt} : ∀ (n : Nat) (y0 : zSt) (y1 : Int32) (y2 : Int32), (zQ [3, 5, 6, 7, 8, 9, 21, 22, 23, 24, 25] [(0, 31, 33)] [4, 10, 11] [(0, 30, 30)]) σ0 y0 → zpc (fX12_step_29 n y0 y1 y2) (fun r => (zQ [3, 5, 6, 7, 8, 9, 21, 22, 23, 24, 25] [(0, 31, 33)] [4, 10, 11] [(0, 30, 30)]) σ0 (r.1)) := by
  intro n
  induction n with
  | zero => intro y0 y1 y2 h; exact zpc_none
  | succ n ih => intro y0 y1 y2 h; exact fk_fX12_step_29_body ih h
theorem fk_fX12_picture_80 {σ0 : zSt} {σ : zSt} {x4 : Int32} (h : (zQ [3, 5, 6, 7, 8, 9, 21, 22, 23, 24, 25] [(0, 31, 33)] [4, 10, 11] [(0, 30, 30)]) σ0 σ) : zpc (fX12_picture_80 σ x4) (fun r => (zQ [3, 5, 6, 7, 8, 9, 21, 22, 23, 24, 25] [(0, 31, 33)] [4, 10, 11] [(0, 30, 30)]) σ0 (r.1)) := by
  unfold fX12_picture_80
  exact zpc_some h
theorem fk_fX12_picture_70 {σ0 : zSt} {k40 : zSt → Int64 → Int32 → Option (zSt × Int32)} (hk40 : ∀ (y0 : zSt) (y1 : Int64) (y2 : Int32), (zQ [3, 5, 6, 7, 8, 9, 21, 22, 23, 24, 25] [(0, 31, 33)] [4, 10, 11] [(0, 30, 30)]) σ0 y0 → zpc (k40 y0 y1 y2) (fun r => (zQ [3, 5, 6, 7, 8, 9, 21, 22, 23, 24, 25] [(0, 31, 33)] [4, 10, 11] [(0, 30, 30)]) σ0 (r.1))) {σ : zSt} {x2 : Int64} {x4 : Int32} (h : (zQ [3, 5, 6, 7, 8, 9, 21, 22, 23, 24, 25] [(0, 31, 33)] [4, 10, 11] [(0, 30, 30)]) σ0 σ) : zpc (fX12_picture_70 k40 σ x2 x4) (fun r => (zQ [3, 5, 6, 7, 8, 9, 21, 22, 23, 24, 25] [(0, 31, 33)] [4, 10, 11] [(0, 30, 30)]) σ0 (r.1)) := by
  unfold fX12_picture_70
  exact zpc_bu (fk_fX12_once h) (fun σ1 hσ1 => zpc_bv (fun v2 _ => hk40 _ _ _ hσ1))
theorem fk_fX12_picture_40_body {σ0 : zSt} {k40 : zSt → Int64 → Int32 → Option (zSt × Int32)} (hk40 : ∀ (y0 : zSt) (y1 : Int64) (y2 : Int32), (zQ [3, 5, 6, 7, 8, 9, 21, 22, 23, 24, 25] [(0, 31, 33)] [4, 10, 11] [(0, 30, 30)]) σ0 y0 → zpc (k40 y0 y1 y2) (fun r => (zQ [3, 5, 6, 7, 8, 9, 21, 22, 23, 24, 25] [(0, 31, 33)] [4, 10, 11] [(0, 30, 30)]) σ0 (r.1))) {σ : zSt} {x2 : Int64} {x4 : Int32} (h : (zQ [3, 5, 6, 7, 8, 9, 21, 22, 23, 24, 25] [(0, 31, 33)] [4, 10, 11] [(0, 30, 30)]) σ0 σ) : zpc (fX12_picture_40_body k40 σ x2 x4) (fun r => (zQ [3, 5, 6, 7, 8, 9, 21, 22, 23, 24, 25] [(0, 31, 33)] [4, 10, 11] [(0, 30, 30)]) σ0 (r.1)) := by
  unfold fX12_picture_40_body
  exact zpc_ck (zpc_if (fun _ => fk_fX12_picture_80 h) (fun _ => zpc_if (fun _ => fk_fX12_picture_70 hk40 h) (fun _ => zpc_ck (zpc_bi (fk_fX12_isStop h) (fun σ3 v4 hσ3 => zpc_if (fun _ => fk_fX12_picture_70 hk40 hσ3) (fun _ => fk_fX12_picture_80 hσ3))))))
theorem fk_fX12_picture_40 {σ0 : zSt} : ∀ (n : Nat) (y0 : zSt) (y1 : Int64) (y2 : Int32), (zQ [3, 5, 6, 7, 8, 9, 21, 22, 23, 24, 25] [(0, 31, 33)] [4, 10, 11] [(0, 30, 30)]) σ0 y0 → zpc (fX12_picture_40 n y0 y1 y2) (fun r => (zQ [3, 5, 6, 7, 8, 9, 21, 22, 23, 24, 25] [(0, 31, 33)] [4, 10, 11] [(0, 30, 30)]) σ0 (r.1)) := by
  intro n
  induction n with
  | zero => intro y0 y1 y2 h; exact zpc_none
  | succ n ih => intro y0 y1 y2 h; exact fk_fX12_picture_40_body ih h
