section ZJN0
theorem fW_fX12_loudness {σ0 : zSt} {σ : zSt} {x0 : Int32} (h : (zQ [] [(3, 69, 88), (3, 98, 170), (3, 172, 279)] [10, 11] [(4, 3, 4)]) σ0 σ) : zpc (fX12_loudness σ x0) (fun r => (zQ [] [(3, 69, 88), (3, 98, 170), (3, 172, 279)] [10, 11] [(4, 3, 4)]) σ0 (r.1)) := by
  unfold fX12_loudness
  exact zpc_if (fun _ => zpc_some h) (fun _ => zpc_if (fun _ => zpc_some h) (fun _ => zpc_if (fun _ => zpc_some h) (fun _ => zpc_if (fun _ => zpc_some h) (fun _ => zpc_if (fun _ => zpc_some h) (fun _ => zpc_if (fun _ => zpc_some h) (fun _ => zpc_if (fun _ => zpc_some h) (fun _ => zpc_if (fun _ => zpc_some h) (fun _ => zpc_if (fun _ => zpc_some h) (fun _ => zpc_if (fun _ => zpc_some h) (fun _ => zpc_if (fun _ => zpc_some h) (fun _ => zpc_if (fun _ => zpc_some h) (fun _ => zpc_if (fun _ => zpc_some h) (fun _ => zpc_if (fun _ => zpc_some h) (fun _ => zpc_if (fun _ => zpc_some h) (fun _ => zpc_some h)))))))))))))))
theorem fW_fX12_sample_102 {σ0 : zSt} {k2 : zSt → Int32 → Option (zSt)} (hk2 : ∀ (y0 : zSt) (y1 : Int32), (zQ [] [(3, 69, 88), (3, 98, 170), (3, 172, 279)] [10, 11] [(4, 3, 4)]) σ0 y0 → zr 0 3 y1 → zpc (k2 y0 y1) (fun r => (zQ [] [(3, 69, 88), (3, 98, 170), (3, 172, 279)] [10, 11] [(4, 3, 4)]) σ0 (r))) {σ : zSt} {x1 : Int32} (h : (zQ [] [(3, 69, 88), (3, 98, 170), (3, 172, 279)] [10, 11] [(4, 3, 4)]) σ0 σ) (qx1 : zr 0 2 x1) : zpc (fX12_sample_102 k2 σ x1) (fun r => (zQ [] [(3, 69, 88), (3, 98, 170), (3, 172, 279)] [10, 11] [(4, 3, 4)]) σ0 (r)) := by
  unfold fX12_sample_102
  exact zpc_bv (fun v1 ev1 => hk2 _ _ h (zr_w (show zr 1 3 v1 by rw [ev1]; exact (zr_add (lo := 1) (hi := 3) qx1 (zr_c (x := 1) (lo := 1) (hi := 1) (by decide)) (by decide))) (by decide)))
theorem fW_fX12_sample_101 {σ0 : zSt} {k2 : zSt → Int32 → Option (zSt)} (hk2 : ∀ (y0 : zSt) (y1 : Int32), (zQ [] [(3, 69, 88), (3, 98, 170), (3, 172, 279)] [10, 11] [(4, 3, 4)]) σ0 y0 → zr 0 3 y1 → zpc (k2 y0 y1) (fun r => (zQ [] [(3, 69, 88), (3, 98, 170), (3, 172, 279)] [10, 11] [(4, 3, 4)]) σ0 (r))) {σ : zSt} {x1 : Int32} {s0 : Int32} {s1 : Int32} (h : (zQ [] [(3, 69, 88), (3, 98, 170), (3, 172, 279)] [10, 11] [(4, 3, 4)]) σ0 σ) (qx1 : zr 0 2 x1) (qs1 : zr 69 86 s1) : zpc (fX12_sample_101 k2 σ x1 s0 s1) (fun r => (zQ [] [(3, 69, 88), (3, 98, 170), (3, 172, 279)] [10, 11] [(4, 3, 4)]) σ0 (r)) := by
  unfold fX12_sample_101
  exact zpc_ck (zpc_bs (zQ.wr (a := 69) (b := 88) (lo := 69) (hi := 86) h qs1 rfl (by decide)) (fun σ2 hσ2 => fW_fX12_sample_102 hk2 hσ2 qx1))
theorem fW_fX12_sample_32 {σ0 : zSt} {k2 : zSt → Int32 → Option (zSt)} (hk2 : ∀ (y0 : zSt) (y1 : Int32), (zQ [] [(3, 69, 88), (3, 98, 170), (3, 172, 279)] [10, 11] [(4, 3, 4)]) σ0 y0 → zr 0 3 y1 → zpc (k2 y0 y1) (fun r => (zQ [] [(3, 69, 88), (3, 98, 170), (3, 172, 279)] [10, 11] [(4, 3, 4)]) σ0 (r))) {σ : zSt} {x1 : Int32} (h : (zQ [] [(3, 69, 88), (3, 98, 170), (3, 172, 279)] [10, 11] [(4, 3, 4)]) σ0 σ) (qx1 : zr 0 2 x1) : zpc (fX12_sample_32 k2 σ x1) (fun r => (zQ [] [(3, 69, 88), (3, 98, 170), (3, 172, 279)] [10, 11] [(4, 3, 4)]) σ0 (r)) := by
  unfold fX12_sample_32
  exact zpc_ck (zpc_if (fun _ => zpc_ck (zpc_ck (zpc_bs (zQ.wr (a := 69) (b := 88) (lo := 72) (hi := 74) h (zr_add (lo := 72) (hi := 74) (zr_c (x := 72) (lo := 72) (hi := 72) (by decide)) qx1 (by decide)) rfl (by decide)) (fun σ3 hσ3 => zpc_ck (zpc_if (fun _ => zpc_ck (fW_fX12_sample_101 hk2 hσ3 qx1 (zr_w (zr_add (lo := 75) (hi := 77) (zr_c (x := 75) (lo := 75) (hi := 75) (by decide)) qx1 (by decide)) (by decide)))) (fun _ => fW_fX12_sample_101 hk2 hσ3 qx1 (zr_w (zr_add (lo := 75) (hi := 77) (zr_c (x := 75) (lo := 75) (hi := 75) (by decide)) qx1 (by decide)) (by decide)))))))) (fun _ => fW_fX12_sample_102 hk2 h qx1))
theorem fW_fX12_sample_407 {σ0 : zSt} {k275 : zSt → Int64 → Int64 → Int32 → Option (zSt)} (hk275 : ∀ (y0 : zSt) (y1 : Int64) (y2 : Int64) (y3 : Int32), (zQ [] [(3, 69, 88), (3, 98, 170), (3, 172, 279)] [10, 11] [(4, 3, 4)]) σ0 y0 → zpc (k275 y0 y1 y2 y3) (fun r => (zQ [] [(3, 69, 88), (3, 98, 170), (3, 172, 279)] [10, 11] [(4, 3, 4)]) σ0 (r))) {σ : zSt} {x1 : Int64} {x3 : Int64} {x5 : Int32} (h : (zQ [] [(3, 69, 88), (3, 98, 170), (3, 172, 279)] [10, 11] [(4, 3, 4)]) σ0 σ) : zpc (fX12_sample_407 k275 σ x1 x3 x5) (fun r => (zQ [] [(3, 69, 88), (3, 98, 170), (3, 172, 279)] [10, 11] [(4, 3, 4)]) σ0 (r)) := by
  unfold fX12_sample_407
  exact zpc_bv (fun v4 _ => hk275 _ _ _ _ h)
theorem fW_fX12_sample_369 {σ0 : zSt} {k275 : zSt → Int64 → Int64 → Int32 → Option (zSt)} (hk275 : ∀ (y0 : zSt) (y1 : Int64) (y2 : Int64) (y3 : Int32), (zQ [] [(3, 69, 88), (3, 98, 170), (3, 172, 279)] [10, 11] [(4, 3, 4)]) σ0 y0 → zpc (k275 y0 y1 y2 y3) (fun r => (zQ [] [(3, 69, 88), (3, 98, 170), (3, 172, 279)] [10, 11] [(4, 3, 4)]) σ0 (r))) {σ : zSt} {x1 : Int64} {x3 : Int64} {x5 : Int32} {x6 : Int32} (h : (zQ [] [(3, 69, 88), (3, 98, 170), (3, 172, 279)] [10, 11] [(4, 3, 4)]) σ0 σ) : zpc (fX12_sample_369 k275 σ x1 x3 x5 x6) (fun r => (zQ [] [(3, 69, 88), (3, 98, 170), (3, 172, 279)] [10, 11] [(4, 3, 4)]) σ0 (r)) := by
  unfold fX12_sample_369
  exact zpc_if (fun _ => fW_fX12_sample_407 hk275 h) (fun _ => zpc_ck (zpc_if (fun _ => zpc_ck (zpc_bi (fW_fX12_loudness h) (fun σ5 v6 hσ5 => zpc_bv (fun v7 _ => fW_fX12_sample_407 hk275 hσ5)))) (fun _ => fW_fX12_sample_407 hk275 h)))
theorem fW_fX12_sample_327 {σ0 : zSt} {k275 : zSt → Int64 → Int64 → Int32 → Option (zSt)} (hk275 : ∀ (y0 : zSt) (y1 : Int64) (y2 : Int64) (y3 : Int32), (zQ [] [(3, 69, 88), (3, 98, 170), (3, 172, 279)] [10, 11] [(4, 3, 4)]) σ0 y0 → zpc (k275 y0 y1 y2 y3) (fun r => (zQ [] [(3, 69, 88), (3, 98, 170), (3, 172, 279)] [10, 11] [(4, 3, 4)]) σ0 (r))) {σ : zSt} {x1 : Int64} {x3 : Int64} {x5 : Int32} {s0 : Int32} (h : (zQ [] [(3, 69, 88), (3, 98, 170), (3, 172, 279)] [10, 11] [(4, 3, 4)]) σ0 σ) : zpc (fX12_sample_327 k275 σ x1 x3 x5 s0) (fun r => (zQ [] [(3, 69, 88), (3, 98, 170), (3, 172, 279)] [10, 11] [(4, 3, 4)]) σ0 (r)) := by
  unfold fX12_sample_327
  exact zpc_if (fun _ => fW_fX12_sample_369 hk275 h) (fun _ => zpc_ck (zpc_if (fun _ => zpc_ck (zpc_bi (fW_fX12_loudness h) (fun σ8 v9 hσ8 => zpc_bv (fun v10 _ => fW_fX12_sample_369 hk275 hσ8)))) (fun _ => fW_fX12_sample_369 hk275 h)))
theorem fW_fX12_sample_508 {σ0 : zSt} {σ : zSt} {x1 : Int64} {x3 : Int64} (h : (zQ [] [(3, 69, 88), (3, 98, 170), (3, 172, 279)] [10, 11] [(4, 3, 4)]) σ0 σ) : zpc (fX12_sample_508 σ x1 x3) (fun r => (zQ [] [(3, 69, 88), (3, 98, 170), (3, 172, 279)] [10, 11] [(4, 3, 4)]) σ0 (r)) := by
  unfold fX12_sample_508
  exact zpc_ck (zpc_ck (zpc_ck (zpc_ck (zpc_bs (zQ.wl h rfl) (fun σ11 hσ11 => zpc_some hσ11)))))
theorem fW_fX12_sample_275_body {σ0 : zSt} {k275 : zSt → Int64 → Int64 → Int32 → Option (zSt)} (hk275 : ∀ (y0 : zSt) (y1 : Int64) (y2 : Int64) (y3 : Int32), (zQ [] [(3, 69, 88), (3, 98, 170), (3, 172, 279)] [10, 11] [(4, 3, 4)]) σ0 y0 → zpc (k275 y0 y1 y2 y3) (fun r => (zQ [] [(3, 69, 88), (3, 98, 170), (3, 172, 279)] [10, 11] [(4, 3, 4)]) σ0 (r))) {σ : zSt} {x1 : Int64} {x3 : Int64} {x5 : Int32} (h : (zQ [] [(3, 69, 88), (3, 98, 170), (3, 172, 279)] [10, 11] [(4, 3, 4)]) σ0 σ) : zpc (fX12_sample_275_body k275 σ x1 x3 x5) (fun r => (zQ [] [(3, 69, 88), (3, 98, 170), (3, 172, 279)] [10, 11] [(4, 3, 4)]) σ0 (r)) := by
  unfold fX12_sample_275_body
  exact zpc_if (fun _ => zpc_ck (zpc_ck (zpc_bs (zQ.wl h rfl) (fun σ12 hσ12 => zpc_ck (zpc_ck (zpc_bs (zQ.wi hσ12 rfl) (fun σ13 hσ13 => zpc_ck (zpc_ck (zpc_bs (zQ.wi hσ13 rfl) (fun σ14 hσ14 => zpc_ck (zpc_ck (zpc_bs (zQ.wi hσ14 rfl) (fun σ15 hσ15 => zpc_ck (zpc_if (fun _ => zpc_ck (zpc_ck (zpc_ck (zpc_bs (zQ.wi hσ15 rfl) (fun σ17 hσ17 => fW_fX12_sample_508 hσ17))))) (fun _ => zpc_ck (zpc_ck (zpc_bs (zQ.wi hσ15 rfl) (fun σ16 hσ16 => fW_fX12_sample_508 hσ16)))))))))))))))))) (fun _ => zpc_if (fun _ => zpc_ck (zpc_if (fun _ => fW_fX12_sample_327 hk275 h) (fun _ => fW_fX12_sample_327 hk275 h))) (fun _ => zpc_ck (zpc_if (fun _ => fW_fX12_sample_327 hk275 h) (fun _ => fW_fX12_sample_327 hk275 h))))
theorem fW_fX12_sample_275 {σ0 : zSt} : ∀ (n : Nat) (y0 : zSt) (y1 : Int64) (y2 : Int64) (y3 : Int32), (zQ [] [(3, 69, 88), (3, 98, 170), (3, 172, 279)] [10, 11] [(4, 3, 4)]) σ0 y0 → zpc (fX12_sample_275 n y0 y1 y2 y3) (fun r => (zQ [] [(3, 69, 88), (3, 98, 170), (3, 172, 279)] [10, 11] [(4, 3, 4)]) σ0 (r)) := by
  intro n
  induction n with
  | zero => intro y0 y1 y2 y3 h; exact zpc_none
  | succ n ih => intro y0 y1 y2 y3 h; exact fW_fX12_sample_275_body ih h
theorem fW_fX12_sample_268 {σ0 : zSt} {σ : zSt} (h : (zQ [] [(3, 69, 88), (3, 98, 170), (3, 172, 279)] [10, 11] [(4, 3, 4)]) σ0 σ) : zpc (fX12_sample_268 σ) (fun r => (zQ [] [(3, 69, 88), (3, 98, 170), (3, 172, 279)] [10, 11] [(4, 3, 4)]) σ0 (r)) := by
  unfold fX12_sample_268
  exact fW_fX12_sample_275 _ _ _ _ _ h
theorem fW_fX12_sample_246 {σ0 : zSt} {σ : zSt} {s0 : Int32} (h : (zQ [] [(3, 69, 88), (3, 98, 170), (3, 172, 279)] [10, 11] [(4, 3, 4)]) σ0 σ) : zpc (fX12_sample_246 σ s0) (fun r => (zQ [] [(3, 69, 88), (3, 98, 170), (3, 172, 279)] [10, 11] [(4, 3, 4)]) σ0 (r)) := by
  unfold fX12_sample_246
  exact zpc_ck (zpc_ck (zpc_bs (zQ.wi h rfl) (fun σ18 hσ18 => fW_fX12_sample_268 hσ18)))
theorem fW_fX12_sample_174 {σ0 : zSt} {σ : zSt} {s0 : Int32} {s1 : Int32} (h : (zQ [] [(3, 69, 88), (3, 98, 170), (3, 172, 279)] [10, 11] [(4, 3, 4)]) σ0 σ) (qs1 : zr 69 86 s1) : zpc (fX12_sample_174 σ s0 s1) (fun r => (zQ [] [(3, 69, 88), (3, 98, 170), (3, 172, 279)] [10, 11] [(4, 3, 4)]) σ0 (r)) := by
  unfold fX12_sample_174
  exact zpc_ck (zpc_bs (zQ.wr (a := 69) (b := 88) (lo := 69) (hi := 86) h qs1 rfl (by decide)) (fun σ19 hσ19 => zpc_ck (zpc_ck (zpc_bs (zQ.wi hσ19 rfl) (fun σ20 hσ20 => zpc_ck (zpc_if (fun _ => zpc_ck (zpc_if (fun _ => zpc_ck (zpc_ck (fW_fX12_sample_246 hσ20))) (fun _ => zpc_ck (fW_fX12_sample_246 hσ20)))) (fun _ => fW_fX12_sample_268 hσ20)))))))
theorem fW_fX12_sample_129 {σ0 : zSt} {σ : zSt} (h : (zQ [] [(3, 69, 88), (3, 98, 170), (3, 172, 279)] [10, 11] [(4, 3, 4)]) σ0 σ) : zpc (fX12_sample_129 σ) (fun r => (zQ [] [(3, 69, 88), (3, 98, 170), (3, 172, 279)] [10, 11] [(4, 3, 4)]) σ0 (r)) := by
  unfold fX12_sample_129
  exact zpc_ck (zpc_if (fun _ => zpc_ck (zpc_ck (zpc_bv (fun v21 _ => zpc_if (fun _ => zpc_ck (fW_fX12_sample_174 h (zr_w (zr_c (x := 83) (lo := 83) (hi := 83) (by decide)) (by decide)))) (fun _ => fW_fX12_sample_174 h (zr_w (zr_c (x := 83) (lo := 83) (hi := 83) (by decide)) (by decide))))))) (fun _ => fW_fX12_sample_268 h))
theorem fW_fX12_sample_2_body {σ0 : zSt} {k2 : zSt → Int32 → Option (zSt)} (hk2 : ∀ (y0 : zSt) (y1 : Int32), (zQ [] [(3, 69, 88), (3, 98, 170), (3, 172, 279)] [10, 11] [(4, 3, 4)]) σ0 y0 → zr 0 3 y1 → zpc (k2 y0 y1) (fun r => (zQ [] [(3, 69, 88), (3, 98, 170), (3, 172, 279)] [10, 11] [(4, 3, 4)]) σ0 (r))) {σ : zSt} {x1 : Int32} (h : (zQ [] [(3, 69, 88), (3, 98, 170), (3, 172, 279)] [10, 11] [(4, 3, 4)]) σ0 σ) (qx1 : zr 0 3 x1) : zpc (fX12_sample_2_body k2 σ x1) (fun r => (zQ [] [(3, 69, 88), (3, 98, 170), (3, 172, 279)] [10, 11] [(4, 3, 4)]) σ0 (r)) := by
  unfold fX12_sample_2_body
  exact zpc_if (fun g1 => zpc_ck (zpc_if (fun _ => fW_fX12_sample_129 h) (fun _ => zpc_ck (zpc_ck (zpc_bs (zQ.wi h rfl) (fun σ22 hσ22 => fW_fX12_sample_129 hσ22)))))) (fun g1 => zpc_ck (zpc_if (fun _ => fW_fX12_sample_32 hk2 h (zr_nge (k := 3) (m := 2) qx1 rfl g1 (by decide))) (fun _ => zpc_bv (fun v23 ev23 => zpc_ck (zpc_ck (zpc_bs (zQ.wr (a := 69) (b := 88) (lo := 72) (hi := 74) h (show zr 72 74 v23 by rw [ev23]; exact (zr_add (lo := 72) (hi := 74) (zr_c (x := 72) (lo := 72) (hi := 72) (by decide)) (zr_nge (k := 3) (m := 2) qx1 rfl g1 (by decide)) (by decide))) rfl (by decide)) (fun σ24 hσ24 => fW_fX12_sample_32 hk2 hσ24 (zr_nge (k := 3) (m := 2) qx1 rfl g1 (by decide)))))))))
theorem fW_fX12_sample_2 {σ0 : zSt} : ∀ (n : Nat) (y0 : zSt) (y1 : Int32), (zQ [] [(3, 69, 88), (3, 98, 170), (3, 172, 279)] [10, 11] [(4, 3, 4)]) σ0 y0 → zr 0 3 y1 → zpc (fX12_sample_2 n y0 y1) (fun r => (zQ [] [(3, 69, 88), (3, 98, 170), (3, 172, 279)] [10, 11] [(4, 3, 4)]) σ0 (r)) := by
  intro n
  induction n with
  | zero => intro y0 y1 h q1; exact zpc_none
  | succ n ih => intro y0 y1 h q1; exact fW_fX12_sample_2_body ih h q1
theorem fW_fX12_sample {σ0 : zSt} {σ : zSt} (h : (zQ [] [(3, 69, 88), (3, 98, 170), (3, 172, 279)] [10, 11] [(4, 3, 4)]) σ0 σ) : zpc (fX12_sample σ) (fun r => (zQ [] [(3, 69, 88), (3, 98, 170), (3, 172, 279)] [10, 11] [(4, 3, 4)]) σ0 (r)) := by
  unfold fX12_sample
  exact fW_fX12_sample_2 _ _ _ h (zr_w (zr_c (x := 0) (lo := 0) (hi := 0) (by decide)) (by decide))
theorem fW_fX12_wreg {σ0 : zSt} {σ : zSt} {x1 : Int32} (h : (zQ [] [(3, 69, 88), (3, 98, 170), (3, 172, 279)] [10, 11] [(4, 3, 4)]) σ0 σ) : zpc (fX12_wreg σ x1) (fun r => (zQ [] [(3, 69, 88), (3, 98, 170), (3, 172, 279)] [10, 11] [(4, 3, 4)]) σ0 (r.1)) := by
  unfold fX12_wreg
  exact zpc_ck (zpc_some h)
theorem fW_fX12_isRhythm_22 {σ0 : zSt} {σ : zSt} {s0 : Int32} (h : (zQ [] [(3, 69, 88), (3, 98, 170), (3, 172, 279)] [10, 11] [(4, 3, 4)]) σ0 σ) : zpc (fX12_isRhythm_22 σ s0) (fun r => (zQ [] [(3, 69, 88), (3, 98, 170), (3, 172, 279)] [10, 11] [(4, 3, 4)]) σ0 (r.1)) := by
  unfold fX12_isRhythm_22
  exact zpc_ck (zpc_some h)
theorem fW_fX12_isRhythm_21 {σ0 : zSt} {σ : zSt} (h : (zQ [] [(3, 69, 88), (3, 98, 170), (3, 172, 279)] [10, 11] [(4, 3, 4)]) σ0 σ) : zpc (fX12_isRhythm_21 σ) (fun r => (zQ [] [(3, 69, 88), (3, 98, 170), (3, 172, 279)] [10, 11] [(4, 3, 4)]) σ0 (r.1)) := by
  unfold fX12_isRhythm_21
  exact fW_fX12_isRhythm_22 h
theorem fW_fX12_isRhythm {σ0 : zSt} {σ : zSt} {x1 : Int32} (h : (zQ [] [(3, 69, 88), (3, 98, 170), (3, 172, 279)] [10, 11] [(4, 3, 4)]) σ0 σ) : zpc (fX12_isRhythm σ x1) (fun r => (zQ [] [(3, 69, 88), (3, 98, 170), (3, 172, 279)] [10, 11] [(4, 3, 4)]) σ0 (r.1)) := by
  unfold fX12_isRhythm
  exact zpc_if (fun _ => fW_fX12_isRhythm_21 h) (fun _ => zpc_bi (fW_fX12_wreg h) (fun σ1 v2 hσ1 => zpc_if (fun _ => fW_fX12_isRhythm_21 hσ1) (fun _ => fW_fX12_isRhythm_22 hσ1)))
theorem fW_fX12_isOn_60 {σ0 : zSt} {σ : zSt} {x3 : Int32} {s0 : Int32} (h : (zQ [] [(3, 69, 88), (3, 98, 170), (3, 172, 279)] [10, 11] [(4, 3, 4)]) σ0 σ) : zpc (fX12_isOn_60 σ x3 s0) (fun r => (zQ [] [(3, 69, 88), (3, 98, 170), (3, 172, 279)] [10, 11] [(4, 3, 4)]) σ0 (r.1)) := by
  unfold fX12_isOn_60
  exact zpc_bi (fW_fX12_wreg h) (fun σ1 v2 hσ1 => zpc_some hσ1)
theorem fW_fX12_isOn {σ0 : zSt} {σ : zSt} {x1 : Int32} {x2 : Int32} (h : (zQ [] [(3, 69, 88), (3, 98, 170), (3, 172, 279)] [10, 11] [(4, 3, 4)]) σ0 σ) : zpc (fX12_isOn σ x1 x2) (fun r => (zQ [] [(3, 69, 88), (3, 98, 170), (3, 172, 279)] [10, 11] [(4, 3, 4)]) σ0 (r.1)) := by
  unfold fX12_isOn
  exact zpc_bi (fW_fX12_wreg h) (fun σ3 v4 hσ3 => zpc_bv (fun v5 _ => zpc_bi (fW_fX12_isRhythm hσ3) (fun σ6 v7 hσ6 => zpc_if (fun _ => zpc_some hσ6) (fun _ => zpc_if (fun _ => fW_fX12_isOn_60 hσ6) (fun _ => zpc_if (fun _ => zpc_if (fun _ => fW_fX12_isOn_60 hσ6) (fun _ => fW_fX12_isOn_60 hσ6)) (fun _ => zpc_if (fun _ => fW_fX12_isOn_60 hσ6) (fun _ => fW_fX12_isOn_60 hσ6)))))))
theorem fW_fX12_digit_20 {σ0 : zSt} {σ : zSt} {s0 : Int32} (h : (zQ [] [(3, 69, 88), (3, 98, 170), (3, 172, 279)] [10, 11] [(4, 3, 4)]) σ0 σ) : zpc (fX12_digit_20 σ s0) (fun r => (zQ [] [(3, 69, 88), (3, 98, 170), (3, 172, 279)] [10, 11] [(4, 3, 4)]) σ0 (r.1)) := by
  unfold fX12_digit_20
  exact zpc_some h
theorem fW_fX12_digit {σ0 : zSt} {σ : zSt} {x0 : Int32} (h : (zQ [] [(3, 69, 88), (3, 98, 170), (3, 172, 279)] [10, 11] [(4, 3, 4)]) σ0 σ) : zpc (fX12_digit σ x0) (fun r => (zQ [] [(3, 69, 88), (3, 98, 170), (3, 172, 279)] [10, 11] [(4, 3, 4)]) σ0 (r.1)) := by
  unfold fX12_digit
  exact zpc_if (fun _ => fW_fX12_digit_20 h) (fun _ => fW_fX12_digit_20 h)
theorem fW_fX12_patchByte_25 {σ0 : zSt} {σ : zSt} {x2 : Int32} {s0 : Int32} (h : (zQ [] [(3, 69, 88), (3, 98, 170), (3, 172, 279)] [10, 11] [(4, 3, 4)]) σ0 σ) : zpc (fX12_patchByte_25 σ x2 s0) (fun r => (zQ [] [(3, 69, 88), (3, 98, 170), (3, 172, 279)] [10, 11] [(4, 3, 4)]) σ0 (r.1)) := by
  unfold fX12_patchByte_25
  exact zpc_if (fun _ => zpc_bi (fW_fX12_wreg h) (fun σ6 v7 hσ6 => zpc_some hσ6)) (fun _ => zpc_bv (fun v1 _ => zpc_ck (zpc_ck (zpc_bi (fW_fX12_digit h) (fun σ2 v3 hσ2 => zpc_ck (zpc_ck (zpc_bi (fW_fX12_digit hσ2) (fun σ4 v5 hσ4 => zpc_some hσ4))))))))
theorem fW_fX12_patchByte {σ0 : zSt} {σ : zSt} {x1 : Int32} {x2 : Int32} (h : (zQ [] [(3, 69, 88), (3, 98, 170), (3, 172, 279)] [10, 11] [(4, 3, 4)]) σ0 σ) : zpc (fX12_patchByte σ x1 x2) (fun r => (zQ [] [(3, 69, 88), (3, 98, 170), (3, 172, 279)] [10, 11] [(4, 3, 4)]) σ0 (r.1)) := by
  unfold fX12_patchByte
  exact zpc_bi (fW_fX12_isRhythm h) (fun σ8 v9 hσ8 => zpc_if (fun _ => zpc_bi (fW_fX12_wreg hσ8) (fun σ10 v11 hσ10 => fW_fX12_patchByte_25 hσ10)) (fun _ => fW_fX12_patchByte_25 hσ8))
theorem fW_fX12_rate_140 {σ0 : zSt} {σ : zSt} {s0 : Int32} (h : (zQ [] [(3, 69, 88), (3, 98, 170), (3, 172, 279)] [10, 11] [(4, 3, 4)]) σ0 σ) : zpc (fX12_rate_140 σ s0) (fun r => (zQ [] [(3, 69, 88), (3, 98, 170), (3, 172, 279)] [10, 11] [(4, 3, 4)]) σ0 (r.1)) := by
  unfold fX12_rate_140
  exact zpc_some h
theorem fW_fX12_rate_99 {σ0 : zSt} {σ : zSt} {s0 : Int32} (h : (zQ [] [(3, 69, 88), (3, 98, 170), (3, 172, 279)] [10, 11] [(4, 3, 4)]) σ0 σ) : zpc (fX12_rate_99 σ s0) (fun r => (zQ [] [(3, 69, 88), (3, 98, 170), (3, 172, 279)] [10, 11] [(4, 3, 4)]) σ0 (r.1)) := by
  unfold fX12_rate_99
  exact zpc_some h
theorem fW_fX12_rate_17 {σ0 : zSt} {σ : zSt} {x1 : Int32} {x2 : Int32} {x3 : Int32} {s0 : Int32} (h : (zQ [] [(3, 69, 88), (3, 98, 170), (3, 172, 279)] [10, 11] [(4, 3, 4)]) σ0 σ) : zpc (fX12_rate_17 σ x1 x2 x3 s0) (fun r => (zQ [] [(3, 69, 88), (3, 98, 170), (3, 172, 279)] [10, 11] [(4, 3, 4)]) σ0 (r.1)) := by
  unfold fX12_rate_17
  exact zpc_if (fun _ => zpc_some h) (fun _ => zpc_if (fun _ => zpc_bi (fW_fX12_patchByte h) (fun σ1 v2 hσ1 => zpc_some hσ1)) (fun _ => zpc_if (fun _ => zpc_bi (fW_fX12_patchByte h) (fun σ3 v4 hσ3 => zpc_some hσ3)) (fun _ => zpc_if (fun _ => zpc_if (fun _ => zpc_bi (fW_fX12_patchByte h) (fun σ5 v6 hσ5 => fW_fX12_rate_99 hσ5)) (fun _ => fW_fX12_rate_99 h)) (fun _ => zpc_bi (fW_fX12_wreg h) (fun σ7 v8 hσ7 => zpc_if (fun _ => zpc_if (fun _ => fW_fX12_rate_140 hσ7) (fun _ => zpc_bi (fW_fX12_patchByte hσ7) (fun σ9 v10 hσ9 => fW_fX12_rate_140 hσ9))) (fun _ => fW_fX12_rate_140 hσ7))))))
theorem fW_fX12_rate {σ0 : zSt} {σ : zSt} {x1 : Int32} {x2 : Int32} {x3 : Int32} (h : (zQ [] [(3, 69, 88), (3, 98, 170), (3, 172, 279)] [10, 11] [(4, 3, 4)]) σ0 σ) : zpc (fX12_rate σ x1 x2 x3) (fun r => (zQ [] [(3, 69, 88), (3, 98, 170), (3, 172, 279)] [10, 11] [(4, 3, 4)]) σ0 (r.1)) := by
  unfold fX12_rate
  exact zpc_bi (fW_fX12_patchByte h) (fun σ11 v12 hσ11 => zpc_if (fun _ => fW_fX12_rate_17 hσ11) (fun _ => fW_fX12_rate_17 hσ11))
theorem fW_fX12_block {σ0 : zSt} {σ : zSt} {x1 : Int32} (h : (zQ [] [(3, 69, 88), (3, 98, 170), (3, 172, 279)] [10, 11] [(4, 3, 4)]) σ0 σ) : zpc (fX12_block σ x1) (fun r => (zQ [] [(3, 69, 88), (3, 98, 170), (3, 172, 279)] [10, 11] [(4, 3, 4)]) σ0 (r.1)) := by
  unfold fX12_block
  exact zpc_bi (fW_fX12_wreg h) (fun σ1 v2 hσ1 => zpc_some hσ1)
theorem fW_fX12_f {σ0 : zSt} {σ : zSt} {x1 : Int32} (h : (zQ [] [(3, 69, 88), (3, 98, 170), (3, 172, 279)] [10, 11] [(4, 3, 4)]) σ0 σ) : zpc (fX12_f σ x1) (fun r => (zQ [] [(3, 69, 88), (3, 98, 170), (3, 172, 279)] [10, 11] [(4, 3, 4)]) σ0 (r.1)) := by
  unfold fX12_f
  exact zpc_bi (fW_fX12_wreg h) (fun σ1 v2 hσ1 => zpc_bi (fW_fX12_wreg hσ1) (fun σ3 v4 hσ3 => zpc_some hσ3))
theorem fW_fX12_t_40 {σ0 : zSt} {σ : zSt} {s0 : Int32} (h : (zQ [] [(3, 69, 88), (3, 98, 170), (3, 172, 279)] [10, 11] [(4, 3, 4)]) σ0 σ) : zpc (fX12_t_40 σ s0) (fun r => (zQ [] [(3, 69, 88), (3, 98, 170), (3, 172, 279)] [10, 11] [(4, 3, 4)]) σ0 (r.1)) := by
  unfold fX12_t_40
  exact zpc_some h
theorem fW_fX12_t_35 {σ0 : zSt} {σ : zSt} (h : (zQ [] [(3, 69, 88), (3, 98, 170), (3, 172, 279)] [10, 11] [(4, 3, 4)]) σ0 σ) : zpc (fX12_t_35 σ) (fun r => (zQ [] [(3, 69, 88), (3, 98, 170), (3, 172, 279)] [10, 11] [(4, 3, 4)]) σ0 (r.1)) := by
  unfold fX12_t_35
  exact fW_fX12_t_40 h
theorem fW_fX12_t_39 {σ0 : zSt} {σ : zSt} (h : (zQ [] [(3, 69, 88), (3, 98, 170), (3, 172, 279)] [10, 11] [(4, 3, 4)]) σ0 σ) : zpc (fX12_t_39 σ) (fun r => (zQ [] [(3, 69, 88), (3, 98, 170), (3, 172, 279)] [10, 11] [(4, 3, 4)]) σ0 (r.1)) := by
  unfold fX12_t_39
  exact fW_fX12_t_40 h
theorem fW_fX12_t_19 {σ0 : zSt} {σ : zSt} {x0 : Int32} {x1 : Int32} (h : (zQ [] [(3, 69, 88), (3, 98, 170), (3, 172, 279)] [10, 11] [(4, 3, 4)]) σ0 σ) : zpc (fX12_t_19 σ x0 x1) (fun r => (zQ [] [(3, 69, 88), (3, 98, 170), (3, 172, 279)] [10, 11] [(4, 3, 4)]) σ0 (r.1)) := by
  unfold fX12_t_19
  exact zpc_if (fun _ => fW_fX12_t_39 h) (fun _ => zpc_if (fun _ => fW_fX12_t_35 h) (fun _ => zpc_if (fun _ => fW_fX12_t_35 h) (fun _ => fW_fX12_t_39 h)))
theorem fW_fX12_t {σ0 : zSt} {σ : zSt} {x0 : Int32} {x1 : Int32} (h : (zQ [] [(3, 69, 88), (3, 98, 170), (3, 172, 279)] [10, 11] [(4, 3, 4)]) σ0 σ) : zpc (fX12_t σ x0 x1) (fun r => (zQ [] [(3, 69, 88), (3, 98, 170), (3, 172, 279)] [10, 11] [(4, 3, 4)]) σ0 (r.1)) := by
  unfold fX12_t
  exact zpc_ck (zpc_if (fun _ => fW_fX12_t_35 h) (fun _ => zpc_ck (zpc_if (fun _ => zpc_if (fun _ => fW_fX12_t_35 h) (fun _ => fW_fX12_t_19 h)) (fun _ => fW_fX12_t_19 h))))
theorem fW_fX12_envelope_275 {σ0 : zSt} {σ : zSt} {s0 : Int32} {s1 : Int32} (h : (zQ [] [(3, 69, 88), (3, 98, 170), (3, 172, 279)] [10, 11] [(4, 3, 4)]) σ0 σ) (qs1 : zr 172 274 s1) : zpc (fX12_envelope_275 σ s0 s1) (fun r => (zQ [] [(3, 69, 88), (3, 98, 170), (3, 172, 279)] [10, 11] [(4, 3, 4)]) σ0 (r)) := by
  unfold fX12_envelope_275
  exact zpc_ck (zpc_bs (zQ.wr (a := 172) (b := 279) (lo := 172) (hi := 274) h qs1 rfl (by decide)) (fun σ1 hσ1 => zpc_some hσ1))
theorem fW_fX12_envelope_259 {σ0 : zSt} {σ : zSt} {x1 : Int32} {x15 : Int32} (h : (zQ [] [(3, 69, 88), (3, 98, 170), (3, 172, 279)] [10, 11] [(4, 3, 4)]) σ0 σ) (qx1 : zr 172 274 x1) : zpc (fX12_envelope_259 σ x1 x15) (fun r => (zQ [] [(3, 69, 88), (3, 98, 170), (3, 172, 279)] [10, 11] [(4, 3, 4)]) σ0 (r)) := by
  unfold fX12_envelope_259
  exact zpc_if (fun _ => fW_fX12_envelope_275 h qx1) (fun _ => fW_fX12_envelope_275 h qx1)
theorem fW_fX12_envelope_220 {σ0 : zSt} {σ : zSt} {x1 : Int32} {s0 : Int32} (h : (zQ [] [(3, 69, 88), (3, 98, 170), (3, 172, 279)] [10, 11] [(4, 3, 4)]) σ0 σ) (qx1 : zr 172 274 x1) : zpc (fX12_envelope_220 σ x1 s0) (fun r => (zQ [] [(3, 69, 88), (3, 98, 170), (3, 172, 279)] [10, 11] [(4, 3, 4)]) σ0 (r)) := by
  unfold fX12_envelope_220
  exact fW_fX12_envelope_259 h qx1
theorem fW_fX12_envelope_257 {σ0 : zSt} {σ : zSt} {x1 : Int32} {s0 : Int32} (h : (zQ [] [(3, 69, 88), (3, 98, 170), (3, 172, 279)] [10, 11] [(4, 3, 4)]) σ0 σ) (qx1 : zr 172 274 x1) : zpc (fX12_envelope_257 σ x1 s0) (fun r => (zQ [] [(3, 69, 88), (3, 98, 170), (3, 172, 279)] [10, 11] [(4, 3, 4)]) σ0 (r)) := by
  unfold fX12_envelope_257
  exact fW_fX12_envelope_259 h qx1
theorem fW_fX12_envelope_358 {σ0 : zSt} {σ : zSt} {s0 : Int32} {s1 : Int32} (h : (zQ [] [(3, 69, 88), (3, 98, 170), (3, 172, 279)] [10, 11] [(4, 3, 4)]) σ0 σ) (qs1 : zr 172 274 s1) : zpc (fX12_envelope_358 σ s0 s1) (fun r => (zQ [] [(3, 69, 88), (3, 98, 170), (3, 172, 279)] [10, 11] [(4, 3, 4)]) σ0 (r)) := by
  unfold fX12_envelope_358
  exact zpc_ck (zpc_bs (zQ.wr (a := 172) (b := 279) (lo := 172) (hi := 274) h qs1 rfl (by decide)) (fun σ2 hσ2 => zpc_some hσ2))
theorem fW_fX12_envelope_336 {σ0 : zSt} {σ : zSt} {x1 : Int32} {s0 : Int32} {s1 : Int32} (h : (zQ [] [(3, 69, 88), (3, 98, 170), (3, 172, 279)] [10, 11] [(4, 3, 4)]) σ0 σ) (qx1 : zr 172 274 x1) : zpc (fX12_envelope_336 σ x1 s0 s1) (fun r => (zQ [] [(3, 69, 88), (3, 98, 170), (3, 172, 279)] [10, 11] [(4, 3, 4)]) σ0 (r)) := by
  unfold fX12_envelope_336
  exact zpc_bv (fun v3 _ => zpc_if (fun _ => fW_fX12_envelope_358 h qx1) (fun _ => fW_fX12_envelope_358 h qx1))
theorem fW_fX12_envelope_159 {σ0 : zSt} {σ : zSt} {x1 : Int32} {x4 : Int32} {x7 : Int32} {x8 : Int32} {x9 : Int64} {s0 : Int32} (h : (zQ [] [(3, 69, 88), (3, 98, 170), (3, 172, 279)] [10, 11] [(4, 3, 4)]) σ0 σ) (qx1 : zr 172 274 x1) : zpc (fX12_envelope_159 σ x1 x4 x7 x8 x9 s0) (fun r => (zQ [] [(3, 69, 88), (3, 98, 170), (3, 172, 279)] [10, 11] [(4, 3, 4)]) σ0 (r)) := by
  unfold fX12_envelope_159
  exact zpc_ck (zpc_ck (zpc_bv (fun v4 _ => zpc_ck (zpc_bv (fun v5 _ => zpc_if (fun _ => zpc_if (fun _ => zpc_if (fun _ => fW_fX12_envelope_257 h qx1) (fun _ => zpc_bi (fW_fX12_t h) (fun σ10 v11 hσ10 => fW_fX12_envelope_257 hσ10 qx1))) (fun _ => zpc_if (fun _ => zpc_ck (fW_fX12_envelope_220 h qx1)) (fun _ => fW_fX12_envelope_220 h qx1))) (fun _ => zpc_if (fun _ => zpc_if (fun _ => zpc_ck (zpc_bi (fW_fX12_t h) (fun σ8 v9 hσ8 => fW_fX12_envelope_336 hσ8 qx1))) (fun _ => zpc_if (fun _ => zpc_bi (fW_fX12_t h) (fun σ6 v7 hσ6 => fW_fX12_envelope_336 hσ6 qx1)) (fun _ => fW_fX12_envelope_336 h qx1))) (fun _ => fW_fX12_envelope_336 h qx1)))))))
theorem fW_fX12_envelope_158 {σ0 : zSt} {σ : zSt} {x1 : Int32} {x4 : Int32} {x7 : Int32} {x8 : Int32} {x9 : Int64} (h : (zQ [] [(3, 69, 88), (3, 98, 170), (3, 172, 279)] [10, 11] [(4, 3, 4)]) σ0 σ) (qx1 : zr 172 274 x1) : zpc (fX12_envelope_158 σ x1 x4 x7 x8 x9) (fun r => (zQ [] [(3, 69, 88), (3, 98, 170), (3, 172, 279)] [10, 11] [(4, 3, 4)]) σ0 (r)) := by
  unfold fX12_envelope_158
  exact fW_fX12_envelope_159 h qx1
theorem fW_fX12_envelope_121 {σ0 : zSt} {σ : zSt} {x1 : Int32} {x4 : Int32} {x7 : Int32} {x8 : Int32} {x9 : Int64} {s0 : Int64} (h : (zQ [] [(3, 69, 88), (3, 98, 170), (3, 172, 279)] [10, 11] [(4, 3, 4)]) σ0 σ) (qx1 : zr 172 274 x1) : zpc (fX12_envelope_121 σ x1 x4 x7 x8 x9 s0) (fun r => (zQ [] [(3, 69, 88), (3, 98, 170), (3, 172, 279)] [10, 11] [(4, 3, 4)]) σ0 (r)) := by
  unfold fX12_envelope_121
  exact zpc_if (fun _ => fW_fX12_envelope_158 h qx1) (fun _ => zpc_ck (zpc_if (fun _ => zpc_ck (zpc_ck (zpc_bi (fW_fX12_t h) (fun σ12 v13 hσ12 => fW_fX12_envelope_159 hσ12 qx1)))) (fun _ => fW_fX12_envelope_158 h qx1)))
theorem fW_fX12_envelope_87 {σ0 : zSt} {σ : zSt} {x1 : Int32} {x4 : Int32} {x6 : Int32} {s0 : Int32} (h : (zQ [] [(3, 69, 88), (3, 98, 170), (3, 172, 279)] [10, 11] [(4, 3, 4)]) σ0 σ) (qx1 : zr 172 274 x1) : zpc (fX12_envelope_87 σ x1 x4 x6 s0) (fun r => (zQ [] [(3, 69, 88), (3, 98, 170), (3, 172, 279)] [10, 11] [(4, 3, 4)]) σ0 (r)) := by
  unfold fX12_envelope_87
  exact zpc_ck (zpc_bv (fun v14 _ => zpc_ck (zpc_bv (fun v15 _ => zpc_if (fun _ => fW_fX12_envelope_121 h qx1) (fun _ => fW_fX12_envelope_121 h qx1)))))
theorem fW_fX12_envelope_63 {σ0 : zSt} {σ : zSt} {x1 : Int32} {x4 : Int32} {x5 : Int32} {x6 : Int32} (h : (zQ [] [(3, 69, 88), (3, 98, 170), (3, 172, 279)] [10, 11] [(4, 3, 4)]) σ0 σ) (qx1 : zr 172 274 x1) : zpc (fX12_envelope_63 σ x1 x4 x5 x6) (fun r => (zQ [] [(3, 69, 88), (3, 98, 170), (3, 172, 279)] [10, 11] [(4, 3, 4)]) σ0 (r)) := by
  unfold fX12_envelope_63
  exact zpc_ck (zpc_if (fun _ => zpc_ck (fW_fX12_envelope_87 h qx1)) (fun _ => fW_fX12_envelope_87 h qx1))
theorem fW_fX12_envelope {σ0 : zSt} {σ : zSt} {x1 : Int32} {x2 : Int32} {x3 : Int32} (h : (zQ [] [(3, 69, 88), (3, 98, 170), (3, 172, 279)] [10, 11] [(4, 3, 4)]) σ0 σ) (qx1 : zr 172 274 x1) : zpc (fX12_envelope σ x1 x2 x3) (fun r => (zQ [] [(3, 69, 88), (3, 98, 170), (3, 172, 279)] [10, 11] [(4, 3, 4)]) σ0 (r)) := by
  unfold fX12_envelope
  exact zpc_ck (zpc_bv (fun v16 _ => zpc_bi (fW_fX12_rate h) (fun σ17 v18 hσ17 => zpc_if (fun _ => zpc_some hσ17) (fun _ => zpc_bi (fW_fX12_block hσ17) (fun σ19 v20 hσ19 => zpc_bi (fW_fX12_f hσ19) (fun σ21 v22 hσ21 => zpc_ck (zpc_bv (fun v23 _ => zpc_bi (fW_fX12_patchByte hσ21) (fun σ24 v25 hσ24 => zpc_if (fun _ => zpc_ck (zpc_bv (fun v26 _ => fW_fX12_envelope_63 hσ24 qx1))) (fun _ => fW_fX12_envelope_63 hσ24 qx1))))))))))
theorem fW_fX12_phase_150 {σ0 : zSt} {σ : zSt} {x1 : Int32} {x2 : Int32} {x5 : Int32} {x6 : Int32} (h : (zQ [] [(3, 69, 88), (3, 98, 170), (3, 172, 279)] [10, 11] [(4, 3, 4)]) σ0 σ) (qx1 : zr 172 274 x1) : zpc (fX12_phase_150 σ x1 x2 x5 x6) (fun r => (zQ [] [(3, 69, 88), (3, 98, 170), (3, 172, 279)] [10, 11] [(4, 3, 4)]) σ0 (r)) := by
  unfold fX12_phase_150
  exact zpc_ck (zpc_bi (fW_fX12_f h) (fun σ1 v2 hσ1 => zpc_bi (fW_fX12_block hσ1) (fun σ3 v4 hσ3 => zpc_ck (zpc_ck (zpc_bs (zQ.wr (a := 172) (b := 279) (lo := 174) (hi := 276) hσ3 (zr_add (lo := 174) (hi := 276) qx1 (zr_c (x := 2) (lo := 2) (hi := 2) (by decide)) (by decide)) rfl (by decide)) (fun σ5 hσ5 => zpc_some hσ5))))))
theorem fW_fX12_phase_148 {σ0 : zSt} {σ : zSt} {x1 : Int32} {x2 : Int32} {x5 : Int32} {s0 : Int32} (h : (zQ [] [(3, 69, 88), (3, 98, 170), (3, 172, 279)] [10, 11] [(4, 3, 4)]) σ0 σ) (qx1 : zr 172 274 x1) : zpc (fX12_phase_148 σ x1 x2 x5 s0) (fun r => (zQ [] [(3, 69, 88), (3, 98, 170), (3, 172, 279)] [10, 11] [(4, 3, 4)]) σ0 (r)) := by
  unfold fX12_phase_148
  exact fW_fX12_phase_150 h qx1
theorem fW_fX12_phase_132 {σ0 : zSt} {σ : zSt} {x1 : Int32} {x2 : Int32} {x5 : Int32} {x7 : Int32} {s0 : Int32} (h : (zQ [] [(3, 69, 88), (3, 98, 170), (3, 172, 279)] [10, 11] [(4, 3, 4)]) σ0 σ) (qx1 : zr 172 274 x1) : zpc (fX12_phase_132 σ x1 x2 x5 x7 s0) (fun r => (zQ [] [(3, 69, 88), (3, 98, 170), (3, 172, 279)] [10, 11] [(4, 3, 4)]) σ0 (r)) := by
  unfold fX12_phase_132
  exact zpc_if (fun _ => fW_fX12_phase_148 h qx1) (fun _ => fW_fX12_phase_148 h qx1)
theorem fW_fX12_phase_60 {σ0 : zSt} {σ : zSt} {x1 : Int32} {x2 : Int32} {x3 : Int32} {s0 : Int32} (h : (zQ [] [(3, 69, 88), (3, 98, 170), (3, 172, 279)] [10, 11] [(4, 3, 4)]) σ0 σ) (qx1 : zr 172 274 x1) : zpc (fX12_phase_60 σ x1 x2 x3 s0) (fun r => (zQ [] [(3, 69, 88), (3, 98, 170), (3, 172, 279)] [10, 11] [(4, 3, 4)]) σ0 (r)) := by
  unfold fX12_phase_60
  exact zpc_bi (fW_fX12_patchByte h) (fun σ6 v7 hσ6 => zpc_if (fun _ => fW_fX12_phase_150 hσ6 qx1) (fun _ => zpc_ck (zpc_ck (zpc_ck (zpc_bv (fun v8 _ => zpc_bi (fW_fX12_f hσ6) (fun σ9 v10 hσ9 => zpc_ck (zpc_bv (fun v11 _ => zpc_ck (zpc_if (fun _ => fW_fX12_phase_132 hσ9 qx1) (fun _ => zpc_ck (zpc_if (fun _ => fW_fX12_phase_132 hσ9 qx1) (fun _ => zpc_ck (fW_fX12_phase_132 hσ9 qx1))))))))))))))
theorem fW_fX12_phase {σ0 : zSt} {σ : zSt} {x1 : Int32} {x2 : Int32} {x3 : Int32} (h : (zQ [] [(3, 69, 88), (3, 98, 170), (3, 172, 279)] [10, 11] [(4, 3, 4)]) σ0 σ) (qx1 : zr 172 274 x1) : zpc (fX12_phase σ x1 x2 x3) (fun r => (zQ [] [(3, 69, 88), (3, 98, 170), (3, 172, 279)] [10, 11] [(4, 3, 4)]) σ0 (r)) := by
  unfold fX12_phase
  exact zpc_bi (fW_fX12_patchByte h) (fun σ12 v13 hσ12 => zpc_bv (fun v14 _ => zpc_if (fun _ => fW_fX12_phase_60 hσ12 qx1) (fun _ => zpc_if (fun _ => zpc_if (fun _ => fW_fX12_phase_60 hσ12 qx1) (fun _ => zpc_if (fun _ => fW_fX12_phase_60 hσ12 qx1) (fun _ => fW_fX12_phase_60 hσ12 qx1))) (fun _ => fW_fX12_phase_60 hσ12 qx1))))
theorem fW_fX12_drum_191 {σ0 : zSt} {σ : zSt} {s0 : Int32} (h : (zQ [] [(3, 69, 88), (3, 98, 170), (3, 172, 279)] [10, 11] [(4, 3, 4)]) σ0 σ) : zpc (fX12_drum_191 σ s0) (fun r => (zQ [] [(3, 69, 88), (3, 98, 170), (3, 172, 279)] [10, 11] [(4, 3, 4)]) σ0 (r.1)) := by
  unfold fX12_drum_191
  exact zpc_some h
theorem fW_fX12_drum_214 {σ0 : zSt} {σ : zSt} {s0 : Int32} (h : (zQ [] [(3, 69, 88), (3, 98, 170), (3, 172, 279)] [10, 11] [(4, 3, 4)]) σ0 σ) : zpc (fX12_drum_214 σ s0) (fun r => (zQ [] [(3, 69, 88), (3, 98, 170), (3, 172, 279)] [10, 11] [(4, 3, 4)]) σ0 (r.1)) := by
  unfold fX12_drum_214
  exact zpc_some h
theorem fW_fX12_drum_148 {σ0 : zSt} {σ : zSt} {x1 : Int32} {x2 : Int32} {x3 : Int32} {x6 : Int32} {x7 : Int32} (h : (zQ [] [(3, 69, 88), (3, 98, 170), (3, 172, 279)] [10, 11] [(4, 3, 4)]) σ0 σ) : zpc (fX12_drum_148 σ x1 x2 x3 x6 x7) (fun r => (zQ [] [(3, 69, 88), (3, 98, 170), (3, 172, 279)] [10, 11] [(4, 3, 4)]) σ0 (r.1)) := by
  unfold fX12_drum_148
  exact zpc_if (fun _ => zpc_if (fun _ => zpc_if (fun _ => fW_fX12_drum_191 h) (fun _ => fW_fX12_drum_191 h)) (fun _ => zpc_if (fun _ => fW_fX12_drum_191 h) (fun _ => fW_fX12_drum_191 h))) (fun _ => zpc_if (fun _ => fW_fX12_drum_214 h) (fun _ => zpc_if (fun _ => fW_fX12_drum_214 h) (fun _ => fW_fX12_drum_214 h)))
theorem fW_fX12_drum_147 {σ0 : zSt} {σ : zSt} {s0 : Int32} (h : (zQ [] [(3, 69, 88), (3, 98, 170), (3, 172, 279)] [10, 11] [(4, 3, 4)]) σ0 σ) : zpc (fX12_drum_147 σ s0) (fun r => (zQ [] [(3, 69, 88), (3, 98, 170), (3, 172, 279)] [10, 11] [(4, 3, 4)]) σ0 (r.1)) := by
  unfold fX12_drum_147
  exact zpc_some h
theorem fW_fX12_drum_100 {σ0 : zSt} {σ : zSt} {x1 : Int32} {x2 : Int32} {x3 : Int32} {x6 : Int32} {s0 : Int32} (h : (zQ [] [(3, 69, 88), (3, 98, 170), (3, 172, 279)] [10, 11] [(4, 3, 4)]) σ0 σ) : zpc (fX12_drum_100 σ x1 x2 x3 x6 s0) (fun r => (zQ [] [(3, 69, 88), (3, 98, 170), (3, 172, 279)] [10, 11] [(4, 3, 4)]) σ0 (r.1)) := by
  unfold fX12_drum_100
  exact zpc_if (fun _ => zpc_if (fun _ => zpc_if (fun _ => zpc_if (fun _ => fW_fX12_drum_147 h) (fun _ => fW_fX12_drum_147 h)) (fun _ => zpc_if (fun _ => fW_fX12_drum_147 h) (fun _ => fW_fX12_drum_147 h))) (fun _ => fW_fX12_drum_148 h)) (fun _ => fW_fX12_drum_148 h)
theorem fW_fX12_drum_79 {σ0 : zSt} {σ : zSt} {x1 : Int32} {x2 : Int32} {x3 : Int32} {s0 : Int32} (h : (zQ [] [(3, 69, 88), (3, 98, 170), (3, 172, 279)] [10, 11] [(4, 3, 4)]) σ0 σ) : zpc (fX12_drum_79 σ x1 x2 x3 s0) (fun r => (zQ [] [(3, 69, 88), (3, 98, 170), (3, 172, 279)] [10, 11] [(4, 3, 4)]) σ0 (r.1)) := by
  unfold fX12_drum_79
  exact zpc_ck (zpc_if (fun _ => fW_fX12_drum_100 h) (fun _ => fW_fX12_drum_100 h))
theorem fW_fX12_drum_74 {σ0 : zSt} {σ : zSt} {x1 : Int32} {x2 : Int32} {x3 : Int32} (h : (zQ [] [(3, 69, 88), (3, 98, 170), (3, 172, 279)] [10, 11] [(4, 3, 4)]) σ0 σ) : zpc (fX12_drum_74 σ x1 x2 x3) (fun r => (zQ [] [(3, 69, 88), (3, 98, 170), (3, 172, 279)] [10, 11] [(4, 3, 4)]) σ0 (r.1)) := by
  unfold fX12_drum_74
  exact fW_fX12_drum_79 h
theorem fW_fX12_drum {σ0 : zSt} {σ : zSt} {x1 : Int32} {x2 : Int32} {x3 : Int32} (h : (zQ [] [(3, 69, 88), (3, 98, 170), (3, 172, 279)] [10, 11] [(4, 3, 4)]) σ0 σ) : zpc (fX12_drum σ x1 x2 x3) (fun r => (zQ [] [(3, 69, 88), (3, 98, 170), (3, 172, 279)] [10, 11] [(4, 3, 4)]) σ0 (r.1)) := by
  unfold fX12_drum
  exact zpc_ck (zpc_ck (zpc_bv (fun v1 _ => zpc_ck (zpc_ck (zpc_bv (fun v2 _ => zpc_if (fun _ => zpc_if (fun _ => zpc_if (fun _ => fW_fX12_drum_79 h) (fun _ => fW_fX12_drum_74 h)) (fun _ => fW_fX12_drum_74 h)) (fun _ => fW_fX12_drum_74 h)))))))
theorem fW_fX12_kept_97 {σ0 : zSt} {σ : zSt} {s0 : Int32} (h : (zQ [] [(3, 69, 88), (3, 98, 170), (3, 172, 279)] [10, 11] [(4, 3, 4)]) σ0 σ) : zpc (fX12_kept_97 σ s0) (fun r => (zQ [] [(3, 69, 88), (3, 98, 170), (3, 172, 279)] [10, 11] [(4, 3, 4)]) σ0 (r.1)) := by
  unfold fX12_kept_97
  exact zpc_some h
theorem fW_fX12_kept {σ0 : zSt} {σ : zSt} {x0 : Int32} (h : (zQ [] [(3, 69, 88), (3, 98, 170), (3, 172, 279)] [10, 11] [(4, 3, 4)]) σ0 σ) : zpc (fX12_kept σ x0) (fun r => (zQ [] [(3, 69, 88), (3, 98, 170), (3, 172, 279)] [10, 11] [(4, 3, 4)]) σ0 (r.1)) := by
  unfold fX12_kept
  exact zpc_if (fun _ => fW_fX12_kept_97 h) (fun _ => zpc_if (fun _ => fW_fX12_kept_97 h) (fun _ => zpc_if (fun _ => fW_fX12_kept_97 h) (fun _ => zpc_if (fun _ => fW_fX12_kept_97 h) (fun _ => zpc_if (fun _ => fW_fX12_kept_97 h) (fun _ => zpc_if (fun _ => fW_fX12_kept_97 h) (fun _ => zpc_if (fun _ => fW_fX12_kept_97 h) (fun _ => zpc_if (fun _ => fW_fX12_kept_97 h) (fun _ => zpc_if (fun _ => fW_fX12_kept_97 h) (fun _ => fW_fX12_kept_97 h)))))))))
theorem fW_fX12_waveAt_376 {σ0 : zSt} {σ : zSt} {s0 : Int32} (h : (zQ [] [(3, 69, 88), (3, 98, 170), (3, 172, 279)] [10, 11] [(4, 3, 4)]) σ0 σ) : zpc (fX12_waveAt_376 σ s0) (fun r => (zQ [] [(3, 69, 88), (3, 98, 170), (3, 172, 279)] [10, 11] [(4, 3, 4)]) σ0 (r.1)) := by
  unfold fX12_waveAt_376
  exact zpc_some h
theorem fW_fX12_waveAt_296 {σ0 : zSt} {σ : zSt} {x2 : Int32} {x3 : Int32} {x4 : Int32} {x5 : Int32} {s0 : Int32} (h : (zQ [] [(3, 69, 88), (3, 98, 170), (3, 172, 279)] [10, 11] [(4, 3, 4)]) σ0 σ) : zpc (fX12_waveAt_296 σ x2 x3 x4 x5 s0) (fun r => (zQ [] [(3, 69, 88), (3, 98, 170), (3, 172, 279)] [10, 11] [(4, 3, 4)]) σ0 (r.1)) := by
  unfold fX12_waveAt_296
  exact zpc_ck (zpc_bv (fun v1 _ => zpc_ck (zpc_ck (zpc_ck (zpc_bv (fun v2 _ => zpc_if (fun _ => zpc_some h) (fun _ => zpc_bi (fW_fX12_patchByte h) (fun σ3 v4 hσ3 => zpc_if (fun _ => fW_fX12_waveAt_376 hσ3) (fun _ => fW_fX12_waveAt_376 hσ3)))))))))
theorem fW_fX12_waveAt_263 {σ0 : zSt} {σ : zSt} {x1 : Int32} {x2 : Int32} {x3 : Int32} {x4 : Int32} {x5 : Int32} {x8 : Int32} {x11 : Int32} {s0 : Int32} (h : (zQ [] [(3, 69, 88), (3, 98, 170), (3, 172, 279)] [10, 11] [(4, 3, 4)]) σ0 σ) : zpc (fX12_waveAt_263 σ x1 x2 x3 x4 x5 x8 x11 s0) (fun r => (zQ [] [(3, 69, 88), (3, 98, 170), (3, 172, 279)] [10, 11] [(4, 3, 4)]) σ0 (r.1)) := by
  unfold fX12_waveAt_263
  exact zpc_ck (zpc_bv (fun v5 _ => zpc_if (fun _ => fW_fX12_waveAt_296 h) (fun _ => fW_fX12_waveAt_296 h)))
theorem fW_fX12_waveAt_260 {σ0 : zSt} {σ : zSt} {x1 : Int32} {x2 : Int32} {x3 : Int32} {x4 : Int32} {x5 : Int32} {x8 : Int32} {x11 : Int32} {s0 : Int32} (h : (zQ [] [(3, 69, 88), (3, 98, 170), (3, 172, 279)] [10, 11] [(4, 3, 4)]) σ0 σ) : zpc (fX12_waveAt_260 σ x1 x2 x3 x4 x5 x8 x11 s0) (fun r => (zQ [] [(3, 69, 88), (3, 98, 170), (3, 172, 279)] [10, 11] [(4, 3, 4)]) σ0 (r.1)) := by
  unfold fX12_waveAt_260
  exact zpc_ck (fW_fX12_waveAt_263 h)
theorem fW_fX12_waveAt_206 {σ0 : zSt} {σ : zSt} {x1 : Int32} {x2 : Int32} {x3 : Int32} {x4 : Int32} {x5 : Int32} {x8 : Int32} {s0 : Int32} (h : (zQ [] [(3, 69, 88), (3, 98, 170), (3, 172, 279)] [10, 11] [(4, 3, 4)]) σ0 σ) : zpc (fX12_waveAt_206 σ x1 x2 x3 x4 x5 x8 s0) (fun r => (zQ [] [(3, 69, 88), (3, 98, 170), (3, 172, 279)] [10, 11] [(4, 3, 4)]) σ0 (r.1)) := by
  unfold fX12_waveAt_206
  exact zpc_ck (zpc_ck (zpc_ck (zpc_bv (fun v6 _ => zpc_bi (fW_fX12_patchByte h) (fun σ7 v8 hσ7 => zpc_if (fun _ => fW_fX12_waveAt_263 hσ7) (fun _ => zpc_if (fun _ => fW_fX12_waveAt_260 hσ7) (fun _ => fW_fX12_waveAt_260 hσ7)))))))
theorem fW_fX12_waveAt_192 {σ0 : zSt} {σ : zSt} {x1 : Int32} {x2 : Int32} {x3 : Int32} {x4 : Int32} {x5 : Int32} {x8 : Int32} {x9 : Int32} (h : (zQ [] [(3, 69, 88), (3, 98, 170), (3, 172, 279)] [10, 11] [(4, 3, 4)]) σ0 σ) : zpc (fX12_waveAt_192 σ x1 x2 x3 x4 x5 x8 x9) (fun r => (zQ [] [(3, 69, 88), (3, 98, 170), (3, 172, 279)] [10, 11] [(4, 3, 4)]) σ0 (r.1)) := by
  unfold fX12_waveAt_192
  exact zpc_ck (zpc_ck (fW_fX12_waveAt_206 h))
theorem fW_fX12_waveAt_123 {σ0 : zSt} {σ : zSt} {x1 : Int32} {x2 : Int32} {x3 : Int32} {x4 : Int32} {x5 : Int32} {s0 : Int32} (h : (zQ [] [(3, 69, 88), (3, 98, 170), (3, 172, 279)] [10, 11] [(4, 3, 4)]) σ0 σ) : zpc (fX12_waveAt_123 σ x1 x2 x3 x4 x5 s0) (fun r => (zQ [] [(3, 69, 88), (3, 98, 170), (3, 172, 279)] [10, 11] [(4, 3, 4)]) σ0 (r.1)) := by
  unfold fX12_waveAt_123
  exact zpc_bi (fW_fX12_patchByte h) (fun σ9 v10 hσ9 => zpc_bv (fun v11 _ => zpc_bi (fW_fX12_wreg hσ9) (fun σ12 v13 hσ12 => zpc_bv (fun v14 _ => zpc_if (fun _ => fW_fX12_waveAt_206 hσ12) (fun _ => zpc_bi (fW_fX12_isRhythm hσ12) (fun σ15 v16 hσ15 => zpc_if (fun _ => fW_fX12_waveAt_192 hσ15) (fun _ => zpc_if (fun _ => fW_fX12_waveAt_192 hσ15) (fun _ => zpc_bi (fW_fX12_wreg hσ15) (fun σ17 v18 hσ17 => fW_fX12_waveAt_206 hσ17)))))))))
theorem fW_fX12_waveAt_91 {σ0 : zSt} {σ : zSt} {x1 : Int32} {x2 : Int32} {x3 : Int32} {x4 : Int32} {x5 : Int32} (h : (zQ [] [(3, 69, 88), (3, 98, 170), (3, 172, 279)] [10, 11] [(4, 3, 4)]) σ0 σ) : zpc (fX12_waveAt_91 σ x1 x2 x3 x4 x5) (fun r => (zQ [] [(3, 69, 88), (3, 98, 170), (3, 172, 279)] [10, 11] [(4, 3, 4)]) σ0 (r.1)) := by
  unfold fX12_waveAt_91
  exact fW_fX12_waveAt_123 h
theorem fW_fX12_waveAt_41 {σ0 : zSt} {σ : zSt} {x1 : Int32} {x2 : Int32} {x3 : Int32} {x4 : Int32} {s0 : Int32} (h : (zQ [] [(3, 69, 88), (3, 98, 170), (3, 172, 279)] [10, 11] [(4, 3, 4)]) σ0 σ) : zpc (fX12_waveAt_41 σ x1 x2 x3 x4 s0) (fun r => (zQ [] [(3, 69, 88), (3, 98, 170), (3, 172, 279)] [10, 11] [(4, 3, 4)]) σ0 (r.1)) := by
  unfold fX12_waveAt_41
  exact zpc_bi (fW_fX12_patchByte h) (fun σ19 v20 hσ19 => zpc_bv (fun v21 _ => zpc_bi (fW_fX12_f hσ19) (fun σ22 v23 hσ22 => zpc_ck (zpc_bi (fW_fX12_kept hσ22) (fun σ24 v25 hσ24 => zpc_bi (fW_fX12_block hσ24) (fun σ26 v27 hσ26 => zpc_bv (fun v28 _ => zpc_if (fun _ => fW_fX12_waveAt_91 hσ26) (fun _ => zpc_if (fun _ => fW_fX12_waveAt_91 hσ26) (fun _ => zpc_if (fun _ => zpc_ck (fW_fX12_waveAt_123 hσ26)) (fun _ => zpc_if (fun _ => zpc_ck (fW_fX12_waveAt_123 hσ26)) (fun _ => fW_fX12_waveAt_123 hσ26)))))))))))
theorem fW_fX12_waveAt {σ0 : zSt} {σ : zSt} {x1 : Int32} {x2 : Int32} {x3 : Int32} {x4 : Int32} (h : (zQ [] [(3, 69, 88), (3, 98, 170), (3, 172, 279)] [10, 11] [(4, 3, 4)]) σ0 σ) : zpc (fX12_waveAt σ x1 x2 x3 x4) (fun r => (zQ [] [(3, 69, 88), (3, 98, 170), (3, 172, 279)] [10, 11] [(4, 3, 4)]) σ0 (r.1)) := by
  unfold fX12_waveAt
  exact zpc_ck (zpc_if (fun _ => zpc_if (fun _ => zpc_ck (fW_fX12_waveAt_41 h)) (fun _ => zpc_ck (fW_fX12_waveAt_41 h))) (fun _ => zpc_some h))
theorem fW_fX12_operator_319 {σ0 : zSt} {σ : zSt} {x1 : Int32} {x2 : Int32} {x3 : Int32} {x5 : Int32} {x8 : Int32} (h : (zQ [] [(3, 69, 88), (3, 98, 170), (3, 172, 279)] [10, 11] [(4, 3, 4)]) σ0 σ) (qx3 : zr 172 274 x3) : zpc (fX12_operator_319 σ x1 x2 x3 x5 x8) (fun r => (zQ [] [(3, 69, 88), (3, 98, 170), (3, 172, 279)] [10, 11] [(4, 3, 4)]) σ0 (r)) := by
  unfold fX12_operator_319
  exact zpc_ck (zpc_bs (zQ.wr (a := 172) (b := 279) (lo := 176) (hi := 278) h (zr_add (lo := 176) (hi := 278) qx3 (zr_c (x := 4) (lo := 4) (hi := 4) (by decide)) (by decide)) rfl (by decide)) (fun σ1 hσ1 => zpc_bi (fW_fX12_waveAt hσ1) (fun σ2 v3 hσ2 => zpc_ck (zpc_bs (zQ.wr (a := 172) (b := 279) (lo := 175) (hi := 277) hσ2 (zr_add (lo := 175) (hi := 277) qx3 (zr_c (x := 3) (lo := 3) (hi := 3) (by decide)) (by decide)) rfl (by decide)) (fun σ4 hσ4 => zpc_some hσ4)))))
theorem fW_fX12_operator_266 {σ0 : zSt} {σ : zSt} {x1 : Int32} {x2 : Int32} {x3 : Int32} {x5 : Int32} {s0 : Int32} (h : (zQ [] [(3, 69, 88), (3, 98, 170), (3, 172, 279)] [10, 11] [(4, 3, 4)]) σ0 σ) (qx3 : zr 172 274 x3) : zpc (fX12_operator_266 σ x1 x2 x3 x5 s0) (fun r => (zQ [] [(3, 69, 88), (3, 98, 170), (3, 172, 279)] [10, 11] [(4, 3, 4)]) σ0 (r)) := by
  unfold fX12_operator_266
  exact zpc_ck (zpc_ck (zpc_bv (fun v5 _ => zpc_bi (fW_fX12_isRhythm h) (fun σ6 v7 hσ6 => zpc_if (fun _ => fW_fX12_operator_319 hσ6 qx3) (fun _ => zpc_if (fun _ => fW_fX12_operator_319 hσ6 qx3) (fun _ => zpc_ck (zpc_ck (zpc_bi (fW_fX12_drum hσ6) (fun σ8 v9 hσ8 => fW_fX12_operator_319 hσ8 qx3)))))))))
theorem fW_fX12_operator_190 {σ0 : zSt} {σ : zSt} {x1 : Int32} {x2 : Int32} {x3 : Int32} (h : (zQ [] [(3, 69, 88), (3, 98, 170), (3, 172, 279)] [10, 11] [(4, 3, 4)]) σ0 σ) (qx3 : zr 172 274 x3) : zpc (fX12_operator_190 σ x1 x2 x3) (fun r => (zQ [] [(3, 69, 88), (3, 98, 170), (3, 172, 279)] [10, 11] [(4, 3, 4)]) σ0 (r)) := by
  unfold fX12_operator_190
  exact zpc_bu (fW_fX12_phase h qx3) (fun σ10 hσ10 => zpc_ck (zpc_bv (fun v11 _ => zpc_bi (fW_fX12_patchByte hσ10) (fun σ12 v13 hσ12 => zpc_bv (fun v14 _ => zpc_if (fun _ => zpc_ck (fW_fX12_operator_266 hσ12 qx3)) (fun _ => zpc_if (fun _ => fW_fX12_operator_266 hσ12 qx3) (fun _ => zpc_ck (zpc_ck (fW_fX12_operator_266 hσ12 qx3)))))))))
theorem fW_fX12_operator_146 {σ0 : zSt} {σ : zSt} {x1 : Int32} {x2 : Int32} {x3 : Int32} (h : (zQ [] [(3, 69, 88), (3, 98, 170), (3, 172, 279)] [10, 11] [(4, 3, 4)]) σ0 σ) (qx3 : zr 172 274 x3) : zpc (fX12_operator_146 σ x1 x2 x3) (fun r => (zQ [] [(3, 69, 88), (3, 98, 170), (3, 172, 279)] [10, 11] [(4, 3, 4)]) σ0 (r)) := by
  unfold fX12_operator_146
  exact zpc_ck (zpc_if (fun _ => zpc_ck (zpc_ck (zpc_bi (fW_fX12_patchByte h) (fun σ15 v16 hσ15 => zpc_if (fun _ => fW_fX12_operator_190 hσ15 qx3) (fun _ => zpc_ck (zpc_bs (zQ.wr (a := 172) (b := 279) (lo := 173) (hi := 275) hσ15 (zr_add (lo := 173) (hi := 275) qx3 (zr_c (x := 1) (lo := 1) (hi := 1) (by decide)) (by decide)) rfl (by decide)) (fun σ17 hσ17 => fW_fX12_operator_190 hσ17 qx3))))))) (fun _ => fW_fX12_operator_190 h qx3))
theorem fW_fX12_operator_113 {σ0 : zSt} {σ : zSt} {x1 : Int32} {x2 : Int32} {x3 : Int32} (h : (zQ [] [(3, 69, 88), (3, 98, 170), (3, 172, 279)] [10, 11] [(4, 3, 4)]) σ0 σ) (qx3 : zr 172 274 x3) : zpc (fX12_operator_113 σ x1 x2 x3) (fun r => (zQ [] [(3, 69, 88), (3, 98, 170), (3, 172, 279)] [10, 11] [(4, 3, 4)]) σ0 (r)) := by
  unfold fX12_operator_113
  exact zpc_ck (zpc_if (fun _ => zpc_ck (zpc_if (fun _ => zpc_ck (zpc_bs (zQ.wr (a := 172) (b := 279) (lo := 173) (hi := 275) h (zr_add (lo := 173) (hi := 275) qx3 (zr_c (x := 1) (lo := 1) (hi := 1) (by decide)) (by decide)) rfl (by decide)) (fun σ18 hσ18 => fW_fX12_operator_190 hσ18 qx3))) (fun _ => fW_fX12_operator_146 h qx3))) (fun _ => fW_fX12_operator_146 h qx3))
theorem fW_fX12_operator_53 {σ0 : zSt} {σ : zSt} {x1 : Int32} {x2 : Int32} {x3 : Int32} {x4 : Int32} (h : (zQ [] [(3, 69, 88), (3, 98, 170), (3, 172, 279)] [10, 11] [(4, 3, 4)]) σ0 σ) (qx3 : zr 172 274 x3) : zpc (fX12_operator_53 σ x1 x2 x3 x4) (fun r => (zQ [] [(3, 69, 88), (3, 98, 170), (3, 172, 279)] [10, 11] [(4, 3, 4)]) σ0 (r)) := by
  unfold fX12_operator_53
  exact zpc_ck (zpc_bs (zQ.wr (a := 172) (b := 279) (lo := 177) (hi := 279) h (zr_add (lo := 177) (hi := 279) qx3 (zr_c (x := 5) (lo := 5) (hi := 5) (by decide)) (by decide)) rfl (by decide)) (fun σ19 hσ19 => zpc_bu (fW_fX12_envelope hσ19 qx3) (fun σ20 hσ20 => zpc_ck (zpc_if (fun _ => zpc_ck (zpc_if (fun _ => fW_fX12_operator_113 hσ20 qx3) (fun _ => zpc_ck (zpc_bs (zQ.wr (a := 172) (b := 279) (lo := 173) (hi := 275) hσ20 (zr_add (lo := 173) (hi := 275) qx3 (zr_c (x := 1) (lo := 1) (hi := 1) (by decide)) (by decide)) rfl (by decide)) (fun σ21 hσ21 => zpc_ck (zpc_bs (zQ.wr (a := 172) (b := 279) (lo := 174) (hi := 276) hσ21 (zr_add (lo := 174) (hi := 276) qx3 (zr_c (x := 2) (lo := 2) (hi := 2) (by decide)) (by decide)) rfl (by decide)) (fun σ22 hσ22 => fW_fX12_operator_190 hσ22 qx3))))))) (fun _ => fW_fX12_operator_113 hσ20 qx3)))))
theorem fW_fX12_operator_52 {σ0 : zSt} {σ : zSt} {x1 : Int32} {x2 : Int32} {x3 : Int32} {x4 : Int32} {s0 : Int32} {s1 : Int32} (h : (zQ [] [(3, 69, 88), (3, 98, 170), (3, 172, 279)] [10, 11] [(4, 3, 4)]) σ0 σ) (qx3 : zr 172 274 x3) (qs1 : zr 172 279 s1) : zpc (fX12_operator_52 σ x1 x2 x3 x4 s0 s1) (fun r => (zQ [] [(3, 69, 88), (3, 98, 170), (3, 172, 279)] [10, 11] [(4, 3, 4)]) σ0 (r)) := by
  unfold fX12_operator_52
  exact zpc_ck (zpc_bs (zQ.wr (a := 172) (b := 279) (lo := 172) (hi := 279) h qs1 rfl (by decide)) (fun σ23 hσ23 => fW_fX12_operator_53 hσ23 qx3))
theorem fW_fX12_operator {σ0 : zSt} {σ : zSt} {x1 : Int32} {x2 : Int32} (h : (zQ [] [(3, 69, 88), (3, 98, 170), (3, 172, 279)] [10, 11] [(4, 3, 4)]) σ0 σ) (qx1 : zr 0 8 x1) (qx2 : zr 0 1 x2) : zpc (fX12_operator σ x1 x2) (fun r => (zQ [] [(3, 69, 88), (3, 98, 170), (3, 172, 279)] [10, 11] [(4, 3, 4)]) σ0 (r)) := by
  unfold fX12_operator
  exact zpc_bv (fun v24 ev24 => zpc_bi (fW_fX12_isOn h) (fun σ25 v26 hσ25 => zpc_ck (zpc_if (fun _ => fW_fX12_operator_53 hσ25 (show zr 172 274 v24 by rw [ev24]; exact (zr_add (lo := 172) (hi := 274) (zr_c (x := 172) (lo := 172) (hi := 172) (by decide)) (zr_mul (lo := 0) (hi := 102) (zr_c (x := 6) (lo := 6) (hi := 6) (by decide)) (zr_add (lo := 0) (hi := 17) (zr_mul (lo := 0) (hi := 16) (zr_c (x := 2) (lo := 2) (hi := 2) (by decide)) qx1 (by decide)) qx2 (by decide)) (by decide)) (by decide)))) (fun _ => zpc_if (fun _ => fW_fX12_operator_52 hσ25 (show zr 172 274 v24 by rw [ev24]; exact (zr_add (lo := 172) (hi := 274) (zr_c (x := 172) (lo := 172) (hi := 172) (by decide)) (zr_mul (lo := 0) (hi := 102) (zr_c (x := 6) (lo := 6) (hi := 6) (by decide)) (zr_add (lo := 0) (hi := 17) (zr_mul (lo := 0) (hi := 16) (zr_c (x := 2) (lo := 2) (hi := 2) (by decide)) qx1 (by decide)) qx2 (by decide)) (by decide)) (by decide))) (zr_w (zr_add (lo := 173) (hi := 275) (show zr 172 274 v24 by rw [ev24]; exact (zr_add (lo := 172) (hi := 274) (zr_c (x := 172) (lo := 172) (hi := 172) (by decide)) (zr_mul (lo := 0) (hi := 102) (zr_c (x := 6) (lo := 6) (hi := 6) (by decide)) (zr_add (lo := 0) (hi := 17) (zr_mul (lo := 0) (hi := 16) (zr_c (x := 2) (lo := 2) (hi := 2) (by decide)) qx1 (by decide)) qx2 (by decide)) (by decide)) (by decide))) (zr_c (x := 1) (lo := 1) (hi := 1) (by decide)) (by decide)) (by decide))) (fun _ => fW_fX12_operator_52 hσ25 (show zr 172 274 v24 by rw [ev24]; exact (zr_add (lo := 172) (hi := 274) (zr_c (x := 172) (lo := 172) (hi := 172) (by decide)) (zr_mul (lo := 0) (hi := 102) (zr_c (x := 6) (lo := 6) (hi := 6) (by decide)) (zr_add (lo := 0) (hi := 17) (zr_mul (lo := 0) (hi := 16) (zr_c (x := 2) (lo := 2) (hi := 2) (by decide)) qx1 (by decide)) qx2 (by decide)) (by decide)) (by decide))) (zr_w (zr_add (lo := 173) (hi := 275) (show zr 172 274 v24 by rw [ev24]; exact (zr_add (lo := 172) (hi := 274) (zr_c (x := 172) (lo := 172) (hi := 172) (by decide)) (zr_mul (lo := 0) (hi := 102) (zr_c (x := 6) (lo := 6) (hi := 6) (by decide)) (zr_add (lo := 0) (hi := 17) (zr_mul (lo := 0) (hi := 16) (zr_c (x := 2) (lo := 2) (hi := 2) (by decide)) qx1 (by decide)) qx2 (by decide)) (by decide)) (by decide))) (zr_c (x := 1) (lo := 1) (hi := 1) (by decide)) (by decide)) (by decide)))))))
theorem fW_fX12_waves_20_body {σ0 : zSt} {k12 : zSt → Int32 → Option (zSt)} (hk12 : ∀ (y0 : zSt) (y1 : Int32), (zQ [] [(3, 69, 88), (3, 98, 170), (3, 172, 279)] [10, 11] [(4, 3, 4)]) σ0 y0 → zr 0 9 y1 → zpc (k12 y0 y1) (fun r => (zQ [] [(3, 69, 88), (3, 98, 170), (3, 172, 279)] [10, 11] [(4, 3, 4)]) σ0 (r))) {k20 : zSt → Int32 → Int32 → Option (zSt)} (hk20 : ∀ (y0 : zSt) (y1 : Int32) (y2 : Int32), (zQ [] [(3, 69, 88), (3, 98, 170), (3, 172, 279)] [10, 11] [(4, 3, 4)]) σ0 y0 → zr 0 8 y1 → zr 0 2 y2 → zpc (k20 y0 y1 y2) (fun r => (zQ [] [(3, 69, 88), (3, 98, 170), (3, 172, 279)] [10, 11] [(4, 3, 4)]) σ0 (r))) {σ : zSt} {x1 : Int32} {x2 : Int32} (h : (zQ [] [(3, 69, 88), (3, 98, 170), (3, 172, 279)] [10, 11] [(4, 3, 4)]) σ0 σ) (qx1 : zr 0 8 x1) (qx2 : zr 0 2 x2) : zpc (fX12_waves_20_body k12 k20 σ x1 x2) (fun r => (zQ [] [(3, 69, 88), (3, 98, 170), (3, 172, 279)] [10, 11] [(4, 3, 4)]) σ0 (r)) := by
  unfold fX12_waves_20_body
  exact zpc_if (fun g2 => zpc_bv (fun v1 ev1 => hk12 _ _ h (zr_w (show zr 1 9 v1 by rw [ev1]; exact (zr_add (lo := 1) (hi := 9) qx1 (zr_c (x := 1) (lo := 1) (hi := 1) (by decide)) (by decide))) (by decide)))) (fun g2 => zpc_bu (fW_fX12_operator h qx1 (zr_nge (k := 2) (m := 1) qx2 rfl g2 (by decide))) (fun σ2 hσ2 => zpc_bv (fun v3 ev3 => hk20 _ _ _ hσ2 qx1 (zr_w (show zr 1 2 v3 by rw [ev3]; exact (zr_add (lo := 1) (hi := 2) (zr_nge (k := 2) (m := 1) qx2 rfl g2 (by decide)) (zr_c (x := 1) (lo := 1) (hi := 1) (by decide)) (by decide))) (by decide)))))
theorem fW_fX12_waves_20 {σ0 : zSt} {k12 : zSt → Int32 → Option (zSt)} (hk12 : ∀ (y0 : zSt) (y1 : Int32), (zQ [] [(3, 69, 88), (3, 98, 170), (3, 172, 279)] [10, 11] [(4, 3, 4)]) σ0 y0 → zr 0 9 y1 → zpc (k12 y0 y1) (fun r => (zQ [] [(3, 69, 88), (3, 98, 170), (3, 172, 279)] [10, 11] [(4, 3, 4)]) σ0 (r))) : ∀ (n : Nat) (y0 : zSt) (y1 : Int32) (y2 : Int32), (zQ [] [(3, 69, 88), (3, 98, 170), (3, 172, 279)] [10, 11] [(4, 3, 4)]) σ0 y0 → zr 0 8 y1 → zr 0 2 y2 → zpc (fX12_waves_20 k12 n y0 y1 y2) (fun r => (zQ [] [(3, 69, 88), (3, 98, 170), (3, 172, 279)] [10, 11] [(4, 3, 4)]) σ0 (r)) := by
  intro n
  induction n with
  | zero => intro y0 y1 y2 h q1 q2; exact zpc_none
  | succ n ih => intro y0 y1 y2 h q1 q2; exact fW_fX12_waves_20_body hk12 ih h q1 q2
theorem fW_fX12_waves_157 {σ0 : zSt} {k82 : zSt → Int32 → Int32 → Option (zSt)} (hk82 : ∀ (y0 : zSt) (y1 : Int32) (y2 : Int32), (zQ [] [(3, 69, 88), (3, 98, 170), (3, 172, 279)] [10, 11] [(4, 3, 4)]) σ0 y0 → zpc (k82 y0 y1 y2) (fun r => (zQ [] [(3, 69, 88), (3, 98, 170), (3, 172, 279)] [10, 11] [(4, 3, 4)]) σ0 (r))) {σ : zSt} {x2 : Int32} {x3 : Int32} (h : (zQ [] [(3, 69, 88), (3, 98, 170), (3, 172, 279)] [10, 11] [(4, 3, 4)]) σ0 σ) : zpc (fX12_waves_157 k82 σ x2 x3) (fun r => (zQ [] [(3, 69, 88), (3, 98, 170), (3, 172, 279)] [10, 11] [(4, 3, 4)]) σ0 (r)) := by
  unfold fX12_waves_157
  exact zpc_bv (fun v4 _ => hk82 _ _ _ h)
theorem fW_fX12_waves_153 {σ0 : zSt} {k82 : zSt → Int32 → Int32 → Option (zSt)} (hk82 : ∀ (y0 : zSt) (y1 : Int32) (y2 : Int32), (zQ [] [(3, 69, 88), (3, 98, 170), (3, 172, 279)] [10, 11] [(4, 3, 4)]) σ0 y0 → zpc (k82 y0 y1 y2) (fun r => (zQ [] [(3, 69, 88), (3, 98, 170), (3, 172, 279)] [10, 11] [(4, 3, 4)]) σ0 (r))) {σ : zSt} {x3 : Int32} {s0 : Int32} {s1 : Int32} {s2 : Int32} {s3 : Int32} (h : (zQ [] [(3, 69, 88), (3, 98, 170), (3, 172, 279)] [10, 11] [(4, 3, 4)]) σ0 σ) : zpc (fX12_waves_153 k82 σ x3 s0 s1 s2 s3) (fun r => (zQ [] [(3, 69, 88), (3, 98, 170), (3, 172, 279)] [10, 11] [(4, 3, 4)]) σ0 (r)) := by
  unfold fX12_waves_153
  exact zpc_bv (fun v5 _ => fW_fX12_waves_157 hk82 h)
theorem fW_fX12_waves_82_body {σ0 : zSt} {k82 : zSt → Int32 → Int32 → Option (zSt)} (hk82 : ∀ (y0 : zSt) (y1 : Int32) (y2 : Int32), (zQ [] [(3, 69, 88), (3, 98, 170), (3, 172, 279)] [10, 11] [(4, 3, 4)]) σ0 y0 → zpc (k82 y0 y1 y2) (fun r => (zQ [] [(3, 69, 88), (3, 98, 170), (3, 172, 279)] [10, 11] [(4, 3, 4)]) σ0 (r))) {σ : zSt} {x2 : Int32} {x3 : Int32} (h : (zQ [] [(3, 69, 88), (3, 98, 170), (3, 172, 279)] [10, 11] [(4, 3, 4)]) σ0 σ) : zpc (fX12_waves_82_body k82 σ x2 x3) (fun r => (zQ [] [(3, 69, 88), (3, 98, 170), (3, 172, 279)] [10, 11] [(4, 3, 4)]) σ0 (r)) := by
  unfold fX12_waves_82_body
  exact zpc_if (fun _ => zpc_ck (zpc_bs (zQ.wi h rfl) (fun σ6 hσ6 => zpc_some hσ6))) (fun _ => zpc_bv (fun v7 _ => zpc_bi (fW_fX12_isRhythm h) (fun σ8 v9 hσ8 => zpc_if (fun _ => zpc_ck (zpc_bv (fun v10 _ => fW_fX12_waves_157 hk82 hσ8))) (fun _ => zpc_ck (zpc_if (fun _ => fW_fX12_waves_153 hk82 hσ8) (fun _ => zpc_ck (fW_fX12_waves_153 hk82 hσ8)))))))
theorem fW_fX12_waves_82 {σ0 : zSt} : ∀ (n : Nat) (y0 : zSt) (y1 : Int32) (y2 : Int32), (zQ [] [(3, 69, 88), (3, 98, 170), (3, 172, 279)] [10, 11] [(4, 3, 4)]) σ0 y0 → zpc (fX12_waves_82 n y0 y1 y2) (fun r => (zQ [] [(3, 69, 88), (3, 98, 170), (3, 172, 279)] [10, 11] [(4, 3, 4)]) σ0 (r)) := by
  intro n
  induction n with
  | zero => intro y0 y1 y2 h; exact zpc_none
  | succ n ih => intro y0 y1 y2 h; exact fW_fX12_waves_82_body ih h
theorem fW_fX12_waves_75 {σ0 : zSt} {σ : zSt} {s0 : Int32} {s1 : Int32} (h : (zQ [] [(3, 69, 88), (3, 98, 170), (3, 172, 279)] [10, 11] [(4, 3, 4)]) σ0 σ) (qs1 : zr 164 164 s1) : zpc (fX12_waves_75 σ s0 s1) (fun r => (zQ [] [(3, 69, 88), (3, 98, 170), (3, 172, 279)] [10, 11] [(4, 3, 4)]) σ0 (r)) := by
  unfold fX12_waves_75
  exact zpc_ck (zpc_bs (zQ.wr (a := 98) (b := 170) (lo := 164) (hi := 164) h qs1 rfl (by decide)) (fun σ11 hσ11 => fW_fX12_waves_82 _ _ _ _ hσ11))
theorem fW_fX12_waves_12_body {σ0 : zSt} {k12 : zSt → Int32 → Option (zSt)} (hk12 : ∀ (y0 : zSt) (y1 : Int32), (zQ [] [(3, 69, 88), (3, 98, 170), (3, 172, 279)] [10, 11] [(4, 3, 4)]) σ0 y0 → zr 0 9 y1 → zpc (k12 y0 y1) (fun r => (zQ [] [(3, 69, 88), (3, 98, 170), (3, 172, 279)] [10, 11] [(4, 3, 4)]) σ0 (r))) {σ : zSt} {x1 : Int32} (h : (zQ [] [(3, 69, 88), (3, 98, 170), (3, 172, 279)] [10, 11] [(4, 3, 4)]) σ0 σ) (qx1 : zr 0 9 x1) : zpc (fX12_waves_12_body k12 σ x1) (fun r => (zQ [] [(3, 69, 88), (3, 98, 170), (3, 172, 279)] [10, 11] [(4, 3, 4)]) σ0 (r)) := by
  unfold fX12_waves_12_body
  exact zpc_if (fun g3 => zpc_ck (zpc_bv (fun v12 _ => zpc_if (fun _ => fW_fX12_waves_75 h (zr_c (x := 164) (lo := 164) (hi := 164) (by decide))) (fun _ => fW_fX12_waves_75 h (zr_c (x := 164) (lo := 164) (hi := 164) (by decide)))))) (fun g3 => fW_fX12_waves_20 hk12 _ _ _ _ h (zr_nge (k := 9) (m := 8) qx1 rfl g3 (by decide)) (zr_w (zr_c (x := 0) (lo := 0) (hi := 0) (by decide)) (by decide)))
theorem fW_fX12_waves_12 {σ0 : zSt} : ∀ (n : Nat) (y0 : zSt) (y1 : Int32), (zQ [] [(3, 69, 88), (3, 98, 170), (3, 172, 279)] [10, 11] [(4, 3, 4)]) σ0 y0 → zr 0 9 y1 → zpc (fX12_waves_12 n y0 y1) (fun r => (zQ [] [(3, 69, 88), (3, 98, 170), (3, 172, 279)] [10, 11] [(4, 3, 4)]) σ0 (r)) := by
  intro n
  induction n with
  | zero => intro y0 y1 h q1; exact zpc_none
  | succ n ih => intro y0 y1 h q1; exact fW_fX12_waves_12_body ih h q1
theorem fW_fX12_waves {σ0 : zSt} {σ : zSt} (h : (zQ [] [(3, 69, 88), (3, 98, 170), (3, 172, 279)] [10, 11] [(4, 3, 4)]) σ0 σ) : zpc (fX12_waves σ) (fun r => (zQ [] [(3, 69, 88), (3, 98, 170), (3, 172, 279)] [10, 11] [(4, 3, 4)]) σ0 (r)) := by
  unfold fX12_waves
  exact zpc_ck (zpc_ck (zpc_bs (zQ.wl h rfl) (fun σ13 hσ13 => fW_fX12_waves_12 _ _ _ hσ13 (zr_w (zr_c (x := 0) (lo := 0) (hi := 0) (by decide)) (by decide)))))
theorem fW_fX12_mixed_151 {σ0 : zSt} {σ : zSt} {x2 : Int64} (h : (zQ [] [(3, 69, 88), (3, 98, 170), (3, 172, 279)] [10, 11] [(4, 3, 4)]) σ0 σ) : zpc (fX12_mixed_151 σ x2) (fun r => (zQ [] [(3, 69, 88), (3, 98, 170), (3, 172, 279)] [10, 11] [(4, 3, 4)]) σ0 (r)) := by
  unfold fX12_mixed_151
  exact zpc_ck (zpc_ck (zpc_ck (zpc_ck (zpc_bs (zQ.wl h rfl) (fun σ1 hσ1 => zpc_some hσ1)))))
theorem fW_fX12_mixed_76_body {σ0 : zSt} {k76 : zSt → Int64 → Int32 → Option (zSt)} (hk76 : ∀ (y0 : zSt) (y1 : Int64) (y2 : Int32), (zQ [] [(3, 69, 88), (3, 98, 170), (3, 172, 279)] [10, 11] [(4, 3, 4)]) σ0 y0 → zr 0 3 y2 → zpc (k76 y0 y1 y2) (fun r => (zQ [] [(3, 69, 88), (3, 98, 170), (3, 172, 279)] [10, 11] [(4, 3, 4)]) σ0 (r))) {σ : zSt} {x2 : Int64} {x4 : Int32} (h : (zQ [] [(3, 69, 88), (3, 98, 170), (3, 172, 279)] [10, 11] [(4, 3, 4)]) σ0 σ) (qx4 : zr 0 3 x4) : zpc (fX12_mixed_76_body k76 σ x2 x4) (fun r => (zQ [] [(3, 69, 88), (3, 98, 170), (3, 172, 279)] [10, 11] [(4, 3, 4)]) σ0 (r)) := by
  unfold fX12_mixed_76_body
  exact zpc_if (fun g4 => zpc_ck (zpc_if (fun _ => zpc_ck (zpc_ck (zpc_ck (zpc_bs (zQ.wi h rfl) (fun σ3 hσ3 => fW_fX12_mixed_151 hσ3))))) (fun _ => zpc_ck (zpc_ck (zpc_bs (zQ.wi h rfl) (fun σ2 hσ2 => fW_fX12_mixed_151 hσ2)))))) (fun g4 => zpc_ck (zpc_bs (zQ.wr (a := 98) (b := 170) (lo := 166) (hi := 168) h (zr_add (lo := 166) (hi := 168) (zr_c (x := 166) (lo := 166) (hi := 166) (by decide)) (zr_nge (k := 3) (m := 2) qx4 rfl g4 (by decide)) (by decide)) rfl (by decide)) (fun σ4 hσ4 => zpc_bv (fun v5 ev5 => hk76 _ _ _ hσ4 (zr_w (show zr 1 3 v5 by rw [ev5]; exact (zr_add (lo := 1) (hi := 3) (zr_nge (k := 3) (m := 2) qx4 rfl g4 (by decide)) (zr_c (x := 1) (lo := 1) (hi := 1) (by decide)) (by decide))) (by decide))))))
theorem fW_fX12_mixed_76 {σ0 : zSt} : ∀ (n : Nat) (y0 : zSt) (y1 : Int64) (y2 : Int32), (zQ [] [(3, 69, 88), (3, 98, 170), (3, 172, 279)] [10, 11] [(4, 3, 4)]) σ0 y0 → zr 0 3 y2 → zpc (fX12_mixed_76 n y0 y1 y2) (fun r => (zQ [] [(3, 69, 88), (3, 98, 170), (3, 172, 279)] [10, 11] [(4, 3, 4)]) σ0 (r)) := by
  intro n
  induction n with
  | zero => intro y0 y1 y2 h q2; exact zpc_none
  | succ n ih => intro y0 y1 y2 h q2; exact fW_fX12_mixed_76_body ih h q2
theorem fW_fX12_mixed_26 {σ0 : zSt} {σ : zSt} {s0 : Int32} (h : (zQ [] [(3, 69, 88), (3, 98, 170), (3, 172, 279)] [10, 11] [(4, 3, 4)]) σ0 σ) : zpc (fX12_mixed_26 σ s0) (fun r => (zQ [] [(3, 69, 88), (3, 98, 170), (3, 172, 279)] [10, 11] [(4, 3, 4)]) σ0 (r)) := by
  unfold fX12_mixed_26
  exact zpc_ck (zpc_ck (zpc_ck (zpc_ck (zpc_ck (zpc_ck (zpc_bv (fun v6 _ => fW_fX12_mixed_76 _ _ _ _ h (zr_w (zr_c (x := 0) (lo := 0) (hi := 0) (by decide)) (by decide)))))))))
theorem fW_fX12_mixed {σ0 : zSt} {σ : zSt} (h : (zQ [] [(3, 69, 88), (3, 98, 170), (3, 172, 279)] [10, 11] [(4, 3, 4)]) σ0 σ) : zpc (fX12_mixed σ) (fun r => (zQ [] [(3, 69, 88), (3, 98, 170), (3, 172, 279)] [10, 11] [(4, 3, 4)]) σ0 (r)) := by
  unfold fX12_mixed
  exact zpc_ck (zpc_if (fun _ => zpc_ck (fW_fX12_mixed_26 h)) (fun _ => fW_fX12_mixed_26 h))
theorem fW_fX12_once_377_body {σ0 : zSt} {k377 : zSt → Int64 → Option (zSt)} (hk377 : ∀ (y0 : zSt) (y1 : Int64), (zQ [] [(3, 69, 88), (3, 98, 170), (3, 172, 279)] [10, 11] [(4, 3, 4)]) σ0 y0 → zpc (k377 y0 y1) (fun r => (zQ [] [(3, 69, 88), (3, 98, 170), (3, 172, 279)] [10, 11] [(4, 3, 4)]) σ0 (r))) {σ : zSt} {x5 : Int64} (h : (zQ [] [(3, 69, 88), (3, 98, 170), (3, 172, 279)] [10, 11] [(4, 3, 4)]) σ0 σ) : zpc (fX12_once_377_body k377 σ x5) (fun r => (zQ [] [(3, 69, 88), (3, 98, 170), (3, 172, 279)] [10, 11] [(4, 3, 4)]) σ0 (r)) := by
  unfold fX12_once_377_body
  exact zpc_ck (zpc_ck (zpc_if (fun _ => zpc_some h) (fun _ => zpc_bu (fW_fX12_mixed h) (fun σ1 hσ1 => zpc_bv (fun v2 _ => hk377 _ _ hσ1)))))
theorem fW_fX12_once_377 {σ0 : zSt} : ∀ (n : Nat) (y0 : zSt) (y1 : Int64), (zQ [] [(3, 69, 88), (3, 98, 170), (3, 172, 279)] [10, 11] [(4, 3, 4)]) σ0 y0 → zpc (fX12_once_377 n y0 y1) (fun r => (zQ [] [(3, 69, 88), (3, 98, 170), (3, 172, 279)] [10, 11] [(4, 3, 4)]) σ0 (r)) := by
  intro n
  induction n with
  | zero => intro y0 y1 h; exact zpc_none
  | succ n ih => intro y0 y1 h; exact fW_fX12_once_377_body ih h
theorem fW_fX12_once_341_body {σ0 : zSt} {k341 : zSt → Int64 → Int64 → Option (zSt)} (hk341 : ∀ (y0 : zSt) (y1 : Int64) (y2 : Int64), (zQ [] [(3, 69, 88), (3, 98, 170), (3, 172, 279)] [10, 11] [(4, 3, 4)]) σ0 y0 → zpc (k341 y0 y1 y2) (fun r => (zQ [] [(3, 69, 88), (3, 98, 170), (3, 172, 279)] [10, 11] [(4, 3, 4)]) σ0 (r))) {σ : zSt} {x3 : Int64} {x5 : Int64} (h : (zQ [] [(3, 69, 88), (3, 98, 170), (3, 172, 279)] [10, 11] [(4, 3, 4)]) σ0 σ) : zpc (fX12_once_341_body k341 σ x3 x5) (fun r => (zQ [] [(3, 69, 88), (3, 98, 170), (3, 172, 279)] [10, 11] [(4, 3, 4)]) σ0 (r)) := by
  unfold fX12_once_341_body
  exact zpc_ck (zpc_ck (zpc_if (fun _ => zpc_ck (zpc_bv (fun v3 _ => fW_fX12_once_377 _ _ _ h))) (fun _ => zpc_bu (fW_fX12_waves h) (fun σ4 hσ4 => zpc_bv (fun v5 _ => hk341 _ _ _ hσ4)))))
theorem fW_fX12_once_341 {σ0 : zSt} : ∀ (n : Nat) (y0 : zSt) (y1 : Int64) (y2 : Int64), (zQ [] [(3, 69, 88), (3, 98, 170), (3, 172, 279)] [10, 11] [(4, 3, 4)]) σ0 y0 → zpc (fX12_once_341 n y0 y1 y2) (fun r => (zQ [] [(3, 69, 88), (3, 98, 170), (3, 172, 279)] [10, 11] [(4, 3, 4)]) σ0 (r)) := by
  intro n
  induction n with
  | zero => intro y0 y1 y2 h; exact zpc_none
  | succ n ih => intro y0 y1 y2 h; exact fW_fX12_once_341_body ih h
theorem fW_fX12_once_305_body {σ0 : zSt} {k305 : zSt → Int64 → Int64 → Option (zSt)} (hk305 : ∀ (y0 : zSt) (y1 : Int64) (y2 : Int64), (zQ [] [(3, 69, 88), (3, 98, 170), (3, 172, 279)] [10, 11] [(4, 3, 4)]) σ0 y0 → zpc (k305 y0 y1 y2) (fun r => (zQ [] [(3, 69, 88), (3, 98, 170), (3, 172, 279)] [10, 11] [(4, 3, 4)]) σ0 (r))) {σ : zSt} {x3 : Int64} {x5 : Int64} (h : (zQ [] [(3, 69, 88), (3, 98, 170), (3, 172, 279)] [10, 11] [(4, 3, 4)]) σ0 σ) : zpc (fX12_once_305_body k305 σ x3 x5) (fun r => (zQ [] [(3, 69, 88), (3, 98, 170), (3, 172, 279)] [10, 11] [(4, 3, 4)]) σ0 (r)) := by
  unfold fX12_once_305_body
  exact zpc_ck (zpc_ck (zpc_if (fun _ => zpc_ck (zpc_bv (fun v6 _ => fW_fX12_once_341 _ _ _ _ h))) (fun _ => zpc_bu (fW_fX12_sample h) (fun σ7 hσ7 => zpc_bv (fun v8 _ => hk305 _ _ _ hσ7)))))
theorem fW_fX12_once_305 {σ0 : zSt} : ∀ (n : Nat) (y0 : zSt) (y1 : Int64) (y2 : Int64), (zQ [] [(3, 69, 88), (3, 98, 170), (3, 172, 279)] [10, 11] [(4, 3, 4)]) σ0 y0 → zpc (fX12_once_305 n y0 y1 y2) (fun r => (zQ [] [(3, 69, 88), (3, 98, 170), (3, 172, 279)] [10, 11] [(4, 3, 4)]) σ0 (r)) := by
  intro n
  induction n with
  | zero => intro y0 y1 y2 h; exact zpc_none
  | succ n ih => intro y0 y1 y2 h; exact fW_fX12_once_305_body ih h
theorem fW_fX12_once_298 {σ0 : zSt} {σ : zSt} {x3 : Int64} (h : (zQ [] [(3, 69, 88), (3, 98, 170), (3, 172, 279)] [10, 11] [(4, 3, 4)]) σ0 σ) : zpc (fX12_once_298 σ x3) (fun r => (zQ [] [(3, 69, 88), (3, 98, 170), (3, 172, 279)] [10, 11] [(4, 3, 4)]) σ0 (r)) := by
  unfold fX12_once_298
  exact zpc_ck (zpc_bv (fun v9 _ => fW_fX12_once_305 _ _ _ _ h))
end ZJN0
section ZJN1
theorem fT_fX12_say_2_body {σ0 : zSt} {k2 : zSt → Nat → Int32 → Option (zSt)} (hk2 : ∀ (y0 : zSt) (y1 : Nat) (y2 : Int32), (zQ [26] [(0, 39, 39)] [] []) σ0 y0 → zpc (k2 y0 y1 y2) (fun r => (zQ [26] [(0, 39, 39)] [] []) σ0 (r))) {σ : zSt} {n1 : Nat} {x2 : Int32} (h : (zQ [26] [(0, 39, 39)] [] []) σ0 σ) : zpc (fX12_say_2_body k2 σ n1 x2) (fun r => (zQ [26] [(0, 39, 39)] [] []) σ0 (r)) := by
  unfold fX12_say_2_body
  exact zpc_ck (zpc_if (fun _ => zpc_some h) (fun _ => zpc_ck (zpc_ck (zpc_ck (zpc_bs (zQ.wi h rfl) (fun σ1 hσ1 => zpc_bs (zQ.wi hσ1 rfl) (fun σ2 hσ2 => zpc_bv (fun v3 _ => hk2 _ _ _ hσ2))))))))
theorem fT_fX12_say_2 {σ0 : zSt} : ∀ (n : Nat) (y0 : zSt) (y1 : Nat) (y2 : Int32), (zQ [26] [(0, 39, 39)] [] []) σ0 y0 → zpc (fX12_say_2 n y0 y1 y2) (fun r => (zQ [26] [(0, 39, 39)] [] []) σ0 (r)) := by
  intro n
  induction n with
  | zero => intro y0 y1 y2 h; exact zpc_none
  | succ n ih => intro y0 y1 y2 h; exact fT_fX12_say_2_body ih h
theorem fT_fX12_say {σ0 : zSt} {σ : zSt} {n1 : Nat} (h : (zQ [26] [(0, 39, 39)] [] []) σ0 σ) : zpc (fX12_say σ n1) (fun r => (zQ [26] [(0, 39, 39)] [] []) σ0 (r)) := by
  unfold fX12_say
  exact fT_fX12_say_2 _ _ _ _ h
theorem fT_fX12_hex_49 {σ0 : zSt} {k4 : zSt → Int32 → Int32 → Option (zSt)} (hk4 : ∀ (y0 : zSt) (y1 : Int32) (y2 : Int32), (zQ [26] [(0, 39, 39)] [] []) σ0 y0 → zpc (k4 y0 y1 y2) (fun r => (zQ [26] [(0, 39, 39)] [] []) σ0 (r))) {σ : zSt} {x1 : Int32} {x3 : Int32} {s0 : Int32} {s1 : Int32} (h : (zQ [26] [(0, 39, 39)] [] []) σ0 σ) : zpc (fX12_hex_49 k4 σ x1 x3 s0 s1) (fun r => (zQ [26] [(0, 39, 39)] [] []) σ0 (r)) := by
  unfold fX12_hex_49
  exact zpc_ck (zpc_bs (zQ.wi h rfl) (fun σ1 hσ1 => zpc_bs (zQ.wi hσ1 rfl) (fun σ2 hσ2 => zpc_bv (fun v3 _ => hk4 _ _ _ hσ2))))
theorem fT_fX12_hex_4_body {σ0 : zSt} {k4 : zSt → Int32 → Int32 → Option (zSt)} (hk4 : ∀ (y0 : zSt) (y1 : Int32) (y2 : Int32), (zQ [26] [(0, 39, 39)] [] []) σ0 y0 → zpc (k4 y0 y1 y2) (fun r => (zQ [26] [(0, 39, 39)] [] []) σ0 (r))) {σ : zSt} {x1 : Int32} {x3 : Int32} (h : (zQ [26] [(0, 39, 39)] [] []) σ0 σ) : zpc (fX12_hex_4_body k4 σ x1 x3) (fun r => (zQ [26] [(0, 39, 39)] [] []) σ0 (r)) := by
  unfold fX12_hex_4_body
  exact zpc_if (fun _ => zpc_some h) (fun _ => zpc_bv (fun v4 _ => zpc_if (fun _ => fT_fX12_hex_49 hk4 h) (fun _ => fT_fX12_hex_49 hk4 h)))
theorem fT_fX12_hex_4 {σ0 : zSt} : ∀ (n : Nat) (y0 : zSt) (y1 : Int32) (y2 : Int32), (zQ [26] [(0, 39, 39)] [] []) σ0 y0 → zpc (fX12_hex_4 n y0 y1 y2) (fun r => (zQ [26] [(0, 39, 39)] [] []) σ0 (r)) := by
  intro n
  induction n with
  | zero => intro y0 y1 y2 h; exact zpc_none
  | succ n ih => intro y0 y1 y2 h; exact fT_fX12_hex_4_body ih h
theorem fT_fX12_hex {σ0 : zSt} {σ : zSt} {x1 : Int32} {x2 : Int32} (h : (zQ [26] [(0, 39, 39)] [] []) σ0 σ) : zpc (fX12_hex σ x1 x2) (fun r => (zQ [26] [(0, 39, 39)] [] []) σ0 (r)) := by
  unfold fX12_hex
  exact zpc_bv (fun v5 _ => fT_fX12_hex_4 _ _ _ _ h)
end ZJN1
section ZJN2
theorem ft_fX8_putSign_29 {σ0 : zSt} {σ : zSt} (h : (zQ [45] [(10, 2, 2)] [] []) σ0 σ) : zpc (fX8_putSign_29 σ) (fun r => (zQ [45] [(10, 2, 2)] [] []) σ0 (r)) := by
  unfold fX8_putSign_29
  exact zpc_some h
theorem ft_fX8_putSign {σ0 : zSt} {σ : zSt} {x1 : Int32} (h : (zQ [45] [(10, 2, 2)] [] []) σ0 σ) : zpc (fX8_putSign σ x1) (fun r => (zQ [45] [(10, 2, 2)] [] []) σ0 (r)) := by
  unfold fX8_putSign
  exact zpc_if (fun _ => ft_fX8_putSign_29 h) (fun _ => zpc_ck (zpc_bs (zQ.wi h rfl) (fun σ1 hσ1 => zpc_bs (zQ.wi hσ1 rfl) (fun σ2 hσ2 => ft_fX8_putSign_29 hσ2))))
theorem ft_fX8_putByte {σ0 : zSt} {σ : zSt} {x1 : Int32} (h : (zQ [45] [(10, 2, 2)] [] []) σ0 σ) : zpc (fX8_putByte σ x1) (fun r => (zQ [45] [(10, 2, 2)] [] []) σ0 (r)) := by
  unfold fX8_putByte
  exact zpc_ck (zpc_ck (zpc_bu (ft_fX8_putSign h) (fun σ1 hσ1 => zpc_ck (zpc_ck (zpc_bu (ft_fX8_putSign hσ1) (fun σ2 hσ2 => zpc_some hσ2))))))
end ZJN2
section ZJN3
/-! ANSWERS of both sides, from states whose cells belong together -/
theorem zq_lt {x c : Int32} {a b k : Int} (h : zr a b x) (hc : c.toInt = k) (l : k ≤ a) : ¬ x < c := fun q => by
  have := Int32.lt_iff_toInt_lt.mp q; have := h.1; omega
theorem zq_ltt {x c : Int32} {a b k : Int} (h : zr a b x) (hc : c.toInt = k) (l : b < k) : x < c := Int32.lt_iff_toInt_lt.mpr (by have := h.2; omega)
theorem zq_le {x c : Int32} {a b k : Int} (h : zr a b x) (hc : c.toInt = k) (l : b ≤ k) : x ≤ c := Int32.le_iff_toInt_le.mpr (by have := h.2; omega)
theorem zq_lef {x c : Int32} {a b k : Int} (h : zr a b x) (hc : c.toInt = k) (l : k < a) : ¬ x ≤ c := fun q => by
  have := Int32.le_iff_toInt_le.mp q; have := h.1; omega
theorem zq_ge {x c : Int32} {a b k : Int} (h : zr a b x) (hc : c.toInt = k) (l : k ≤ a) : c ≤ x := Int32.le_iff_toInt_le.mpr (by have := h.1; omega)
theorem zq_gef {x c : Int32} {a b k : Int} (h : zr a b x) (hc : c.toInt = k) (l : b < k) : ¬ c ≤ x := fun q => by
  have := Int32.le_iff_toInt_le.mp q; have := h.2; omega
theorem zq_ne {x c : Int32} {a b k : Int} (h : zr a b x) (hc : c.toInt = k) (l : k < a ∨ b < k) : ¬ x = c := fun q => by
  subst q; have := h.1; have := h.2; omega
theorem zr_lt {x c : Int32} {a b k : Int} (h : zr a b x) (hc : c.toInt = k) (q : x < c) : zr a (k - 1) x := ⟨h.1, by have := Int32.lt_iff_toInt_lt.mp q; omega⟩
theorem zr_nlt {x c : Int32} {a b k : Int} (h : zr a b x) (hc : c.toInt = k) (q : ¬ x < c) : zr k b x := ⟨by have := Int32.le_iff_toInt_le.mp (z_nlt q); omega, h.2⟩
theorem zr_le {x c : Int32} {a b k : Int} (h : zr a b x) (hc : c.toInt = k) (q : x ≤ c) : zr a k x := ⟨h.1, by have := Int32.le_iff_toInt_le.mp q; omega⟩
theorem zr_nle {x c : Int32} {a b k : Int} (h : zr a b x) (hc : c.toInt = k) (q : ¬ x ≤ c) : zr (k + 1) b x := ⟨by have := Int32.lt_iff_toInt_lt.mp (z_nle q); omega, h.2⟩
theorem zr_eqc {x c : Int32} {k : Int} (h : zr k k x) (hc : c.toInt = k) : x = c := Int32.toInt_inj.mp (by have := h.1; have := h.2; omega)
theorem z_nin {x : Int32} {a b : Int} {l h : Int64} (w : x.toInt64.toInt < l.toInt ∨ h.toInt < x.toInt64.toInt) (hl : l.toInt = a) (hh : h.toInt = b) : x.toInt < a ∨ b < x.toInt := by
  rw [Int32.toInt_toInt64, hl, hh] at w
  exact w
/-- a cell that lies behind another by a constant -/
theorem z_off {x c : Int32} {k : Nat} {a b : Int} (h : zr a b x) (hc : c.toInt = k) (l : 0 ≤ a ∧ b + k ≤ 2147483647) : (c + x).toNatClampNeg = k + x.toNatClampNeg := by
  have t := z_tadd (x := c) (y := x) (a := k) (b := k) ⟨by omega, by omega⟩ h ⟨by omega, by omega⟩
  have h1 := h.1
  have k1 := z_clamp (x := c + x) (by omega)
  have k2 := z_clamp (x := x) (by omega)
  omega
def zAns (K : Nat) (r : zRi) (b : zSt × Int32) : Prop := (∃ s, r = Sum.inr (s, K) ∧ zTh 1 b.1) ∨ (∃ s, r = Sum.inl (s, b.2) ∧ zTh 0 b.1)
def zAnl (K : Nat) (r : zRl) (b : zSt × Int64) : Prop := (∃ s, r = Sum.inr (s, K) ∧ zTh 1 b.1) ∨ (∃ s, r = Sum.inl (s, b.2) ∧ zTh 0 b.1)
def zCv (a : zHs × Int32) (b : zSt × Int32) : Prop := zgi b.1 0 0 = a.2 ∧ (a.2 = 0 → (a.1.1 0).toInt = b.2.toInt)
def zCl (a : zHs × Int32) (b : zSt × Int64) : Prop := zgi b.1 0 0 = a.2 ∧ (a.2 = 0 → (a.1.1 0).toInt = b.2.toInt)
theorem zAns.h {K : Nat} {o : Nat → Int64} {q : Option zRi} {p : Option (zSt × Int32)} (h : zp2 q p (zAns K)) : zp2 (zbr q (zhi o (zh1 K))) p zCv := by
  intro a c ea ec
  cases e : q with
  | none => rw [e] at ea; cases ea
  | some r =>
    have i := h r c e ec
    rw [e] at ea
    have ea : zhi o (zh1 K) r = some a := ea
    rcases i with ⟨s, e1, t⟩ | ⟨s, e1, t⟩
    · subst e1
      have ea : (if K = K then some ((o, s), (1 : Int32)) else none) = some a := ea
      rw [if_pos rfl] at ea
      cases ea
      exact ⟨t, fun z => absurd (show (1 : Int32) = 0 from z) (by decide)⟩
    · subst e1
      have ea : some ((vp_updL o 0 c.2.toInt64, s), (0 : Int32)) = some a := ea
      cases ea
      refine ⟨t, fun _ => ?_⟩
      show (if (0 : Nat) = 0 then c.2.toInt64 else o 0).toInt = _
      rw [if_pos rfl, Int32.toInt_toInt64]
theorem zAnl.h {K : Nat} {o : Nat → Int64} {q : Option zRl} {p : Option (zSt × Int64)} (h : zp2 q p (zAnl K)) : zp2 (zbr q (zhl o (zh1 K))) p zCl := by
  intro a c ea ec
  cases e : q with
  | none => rw [e] at ea; cases ea
  | some r =>
    have i := h r c e ec
    rw [e] at ea
    have ea : zhl o (zh1 K) r = some a := ea
    rcases i with ⟨s, e1, t⟩ | ⟨s, e1, t⟩
    · subst e1
      have ea : (if K = K then some ((o, s), (1 : Int32)) else none) = some a := ea
      rw [if_pos rfl] at ea
      cases ea
      exact ⟨t, fun z => absurd (show (1 : Int32) = 0 from z) (by decide)⟩
    · subst e1
      have ea : some ((vp_updL o 0 c.2, s), (0 : Int32)) = some a := ea
      cases ea
      exact ⟨t, fun _ => rfl⟩
/-! cells that belong together -/
def zRk (σ μ : zSt) : Prop := zr 0 2 (μ.1 0 3) ∧ σ.1 0 0 = (if μ.1 0 3 = 2 then 1 else 0) ∧ σ.1 2 0 = (if μ.1 0 3 = 2 then 1 else 0) ∧ σ.1 3 1 = (if μ.1 0 3 = 2 then 1 else 0) ∧ σ.1 6 0 = (if μ.1 0 3 = 2 then 1 else 0) ∧ σ.1 2 1 = (if μ.1 0 3 = 1 then 313 else 262)
def zRp (σ μ : zSt) : Prop := σ.1 34 0 = μ.1 3 33 ∧ (∀ j : Nat, 1 ≤ j → j ≤ 5 → σ.1 34 j = μ.1 3 (36 + j)) ∧ σ.1 34 6 = μ.1 3 35 ∧ (∀ j : Nat, j ≤ 4 → σ.1 34 (7 + j) = μ.1 3 (42 + j)) ∧ zr 0 255 (μ.1 3 33) ∧ (∀ j : Nat, j ≤ 1 → zr 0 63 (μ.1 3 (42 + j))) ∧ (∀ j : Nat, j ≤ 2 → zr 0 1 (μ.1 3 (44 + j)))
def zRv (σ μ : zSt) : Prop := (∀ j : Nat, j ≤ 16 → σ.1 23 j = μ.1 3 (47 + j)) ∧ (∀ j : Nat, j ≤ 3 → σ.1 23 (18 + j) = μ.1 3 (64 + j)) ∧ σ.1 23 26 = μ.1 3 68 ∧ (∀ j : Nat, j < 64 → σ.1 23 (32 + j) = μ.1 8 j &&& 255) ∧ (∀ j : Nat, j < 16384 → σ.1 21 j = μ.1 7 j &&& 255) ∧ (∀ j : Nat, j ≤ 10 → zr 0 255 (μ.1 3 (47 + j))) ∧ zr 0 255 (μ.1 3 62) ∧ zr 0 312 (μ.1 3 66) ∧ zr 0 227 (μ.1 3 67)
def zRs (σ μ : zSt) : Prop := (∀ j : Nat, j ≤ 17 → σ.1 30 j = μ.1 3 (69 + j)) ∧ σ.1 30 18 = μ.1 3 34
def zRw (σ μ : zSt) : Prop := (∀ j : Nat, j < 64 → σ.1 32 j = μ.1 3 (98 + j)) ∧ σ.1 32 68 = μ.1 3 162 ∧ σ.1 32 64 = μ.1 3 163 ∧ σ.1 32 65 = μ.1 3 164 ∧ σ.1 32 67 = μ.1 3 165 ∧ (σ.1 32 66).toInt = (μ.2 4 4).toInt ∧ 0 ≤ (μ.2 4 4).toInt ∧ (∀ q r : Nat, q < 18 → r < 6 → σ.1 32 (128 + 8 * q + r) = μ.1 3 (172 + 6 * q + r))
def zRg (o v a b w : Nat) (σ μ : zSt) : Prop := σ.1 o 2 = μ.1 3 a ∧ σ.1 o 3 = μ.1 3 b ∧ (∀ j : Nat, j < 4096 → σ.2 v j = μ.2 w j) ∧ zr 0 4095 (μ.1 3 a) ∧ zr 0 4096 (μ.1 3 b)
def zRc (σ μ : zSt) : Prop := (∀ j : Nat, j < 4 → σ.2 38 j = μ.2 4 j) ∧ (∀ j : Nat, j < 3 → (σ.2 38 (4 + j)).toInt = (μ.1 3 (166 + j)).toInt) ∧ zRg 11 46 88 87 10 σ μ ∧ zRg 12 48 170 169 11 σ μ
def zRt (σ μ : zSt) : Prop := 0 ≤ (μ.2 0 30).toInt ∧ (μ.2 0 30).toInt ≤ 1000000000000 ∧ (σ.1 9 5).toInt = (μ.2 0 30).toInt % 32 ∧ (∀ j : Nat, j < 32 → ((j : Int) < (μ.2 0 30).toInt → σ.1 44 j = μ.1 21 j) ∧ ((μ.2 0 30).toInt ≤ (j : Int) → σ.1 44 j = -1))
section ZANS
variable {σ μ : zSt} {o : Nat → Int64}
theorem v_register (h : zCp σ μ) {x : Int32} : zp2 (fX11_register σ x) (fX12_register μ x) (zAns 1) := by
  unfold fX11_register fX12_register fX11_register_10 fX12_register_18 fX12_register_35
  refine zp2_within (fun w1 w2 => ?_) (fun w => ?_)
  · have hx := z_wir w1 w2 (zrl_c (lo := 0) (hi := 0) (by decide)) (zrl_c (lo := 26) (hi := 26) (by decide))
    refine zp2_ifr (fun q => absurd q (by decide)) (fun _ => zp2_fails0 (fun μ1 e1 => ?_))
    refine zp2_ifr (fun _ => zp2_ckr ?_) (fun q => absurd rfl q)
    refine zp2_ifl (fun q => absurd q (zq_lt hx rfl (by decide))) (fun _ => zp2_ifl (fun _ => ?_) (fun q => absurd (zq_le hx rfl (by decide)) q))
    refine zp2_bil (P := fun r => r.1 = σ ∧ r.2 = σ.1 36 x.toNatClampNeg) ?_ (fun σ1 v q => ?_)
    · unfold fX5_value fX5_value_19 fX5_value_20
      exact zpc_if (fun q => absurd q (zq_lt hx rfl (by decide))) (fun _ => zpc_if (fun q => absurd q (zq_gef hx rfl (by decide))) (fun _ => zpc_ck (zpc_some ⟨rfl, rfl⟩)))
    · obtain ⟨q1, q2⟩ := q
      have q2 : v = σ.1 36 x.toNatClampNeg := q2
      refine zp2_some (Or.inr ⟨σ1, ?_, by rw [e1]; exact zTh_own⟩)
      have kx := z_clamp hx.1
      have h2 := hx.2
      rw [q2, h.1 _ (by omega), e1]
      show _ = Sum.inl (σ1, (zsi μ 0 0 0).1 3 x.toNatClampNeg)
      rw [zsi_ne (by decide)]
  · have hn := z_nin w (a := 0) (b := 26) rfl rfl
    refine zp2_ifr (fun _ => zp2_fails1 (fun μ1 e1 => ?_)) (fun q => absurd rfl q)
    refine zp2_ifr (fun q => absurd q (by decide)) (fun _ => ?_)
    have c26 : (26 : Int32).toInt = 26 := rfl
    have c0 : (0 : Int32).toInt = 0 := rfl
    refine zp2_ifl (fun _ => zp2_some (Or.inl ⟨σ, rfl, by rw [e1]; exact zTh_own⟩)) (fun q => zp2_ifl (fun q1 => ?_) (fun _ => zp2_some (Or.inl ⟨σ, rfl, by rw [e1]; exact zTh_own⟩)))
    have r1 := Int32.le_iff_toInt_le.mp (z_nlt q)
    have r2 := Int32.le_iff_toInt_le.mp q1
    exfalso; omega
theorem v_sound (h : zRs σ μ) {x : Int32} : zp2 (fX11_sound σ x) (fX12_sound μ x) (zAns 1) := by
  unfold fX11_sound fX12_sound fX11_sound_10 fX12_sound_18 fX12_sound_52
  refine zp2_within (fun w1 w2 => ?_) (fun w => ?_)
  · have hx := z_wir w1 w2 (zrl_c (lo := 0) (hi := 0) (by decide)) (zrl_c (lo := 18) (hi := 18) (by decide))
    refine zp2_ifr (fun q => absurd q (by decide)) (fun _ => zp2_fails0 (fun μ1 e1 => ?_))
    have t1 : zTh 0 μ1 := by rw [e1]; exact zTh_own
    have m3 : μ1.1 3 = μ.1 3 := by rw [e1]; exact zsi_ne (by decide)
    refine zp2_ifr (fun _ => ?_) (fun q => absurd rfl q)
    refine zp2_ifl (fun q => absurd q (zq_lt hx rfl (by decide))) (fun _ => zp2_ifl (fun _ => ?_) (fun q => absurd (zq_le hx rfl (by decide)) q))
    refine zp2_bil (P := fun r => r.1 = σ ∧ r.2 = σ.1 30 x.toNatClampNeg) ?_ (fun σ1 v q => ?_)
    · unfold fX7_value fX7_value_19 fX7_value_20
      exact zpc_if (fun q => absurd q (zq_lt hx rfl (by decide))) (fun _ => zpc_if (fun q => absurd q (zq_gef hx rfl (by decide))) (fun _ => zpc_ck (zpc_some ⟨rfl, rfl⟩)))
    · obtain ⟨q1, q2⟩ := q
      have q2 : v = σ.1 30 x.toNatClampNeg := q2
      have kx := z_clamp hx.1
      have h2 := hx.2
      refine zp2_ifr (fun e => zp2_ckr (zp2_some (Or.inr ⟨σ1, ?_, t1⟩))) (fun e => zp2_ckr (zp2_some (Or.inr ⟨σ1, ?_, t1⟩)))
      · subst e
        rw [q2]
        show Sum.inl (σ1, σ.1 30 18) = Sum.inl (σ1, μ1.1 3 34)
        rw [m3, h.2]
      · have ne : ¬ x.toInt = 18 := fun r => e (Int32.toInt_inj.mp r)
        rw [q2]
        show Sum.inl (σ1, σ.1 30 x.toNatClampNeg) = Sum.inl (σ1, μ1.1 3 (69 + x).toNatClampNeg)
        rw [m3, z_off hx (k := 69) rfl (by decide), h.1 _ (by omega)]
  · have hn := z_nin w (a := 0) (b := 18) rfl rfl
    refine zp2_ifr (fun _ => zp2_fails1 (fun μ1 e1 => ?_)) (fun q => absurd rfl q)
    refine zp2_ifr (fun q => absurd q (by decide)) (fun _ => ?_)
    have c18 : (18 : Int32).toInt = 18 := rfl
    have c0 : (0 : Int32).toInt = 0 := rfl
    refine zp2_ifl (fun _ => zp2_some (Or.inl ⟨σ, rfl, by rw [e1]; exact zTh_own⟩)) (fun q => zp2_ifl (fun q1 => ?_) (fun _ => zp2_some (Or.inl ⟨σ, rfl, by rw [e1]; exact zTh_own⟩)))
    have r1 := Int32.le_iff_toInt_le.mp (z_nlt q)
    have r2 := Int32.le_iff_toInt_le.mp q1
    exfalso; omega
theorem v_battery (h : zMe σ μ) {x : Int32} : zp2 (fX11_battery σ x) (fX12_battery μ x) (zAns 3) := by
  unfold fX11_battery fX12_battery fX11_battery_11 fX12_battery_18 fX12_battery_39
  refine zp2_within (fun w1 w2 => ?_) (fun w => ?_)
  · have hx := z_wir w1 w2 (zrl_c (lo := 0) (hi := 0) (by decide)) (zrl_c (lo := 32767) (hi := 32767) (by decide))
    refine zp2_ifr (fun q => absurd q (by decide)) (fun _ => zp2_fails0 (fun μ1 e1 => ?_))
    have t1 : zTh 0 μ1 := by rw [e1]; exact zTh_own
    have m6 : μ1.1 6 = μ.1 6 := by rw [e1]; exact zsi_ne (by decide)
    refine zp2_ifr (fun _ => zp2_ckr ?_) (fun q => absurd rfl q)
    refine zp2_ifl (fun q => absurd q (zq_lt hx rfl (by decide))) (fun _ => zp2_ifl (fun _ => ?_) (fun q => absurd (zq_ltt hx rfl (by decide)) q))
    refine zp2_bil (P := fun r => r.1 = σ ∧ r.2 = σ.1 17 x.toNatClampNeg) ?_ (fun σ1 v q => ?_)
    · unfold fX2_batteryByte
      have e : x &&& 32767 = x := Int32.toInt_inj.mp (by rw [z_mask (k := 15) hx.1 rfl (by decide)]; have := hx.1; have := hx.2; show x.toInt % 32768 = _; omega)
      rw [e]
      exact zpc_ck (zpc_some ⟨rfl, rfl⟩)
    · obtain ⟨q1, q2⟩ := q
      have q2 : v = σ.1 17 x.toNatClampNeg := q2
      have kx := z_clamp hx.1
      have h2 := hx.2
      refine zp2_some (Or.inr ⟨σ1, ?_, t1⟩)
      rw [q2]
      show Sum.inl (σ1, σ.1 17 x.toNatClampNeg) = Sum.inl (σ1, μ1.1 6 x.toNatClampNeg &&& 255)
      rw [m6, h.2.1 _ (by omega)]
  · have hn := z_nin w (a := 0) (b := 32767) rfl rfl
    refine zp2_ifr (fun _ => zp2_fails1 (fun μ1 e1 => ?_)) (fun q => absurd rfl q)
    refine zp2_ifr (fun q => absurd q (by decide)) (fun _ => ?_)
    have c18 : (32768 : Int32).toInt = 32768 := rfl
    have c0 : (0 : Int32).toInt = 0 := rfl
    refine zp2_ifl (fun _ => zp2_some (Or.inl ⟨σ, rfl, by rw [e1]; exact zTh_own⟩)) (fun q => zp2_ifl (fun q1 => ?_) (fun _ => zp2_some (Or.inl ⟨σ, rfl, by rw [e1]; exact zTh_own⟩)))
    have r1 := Int32.le_iff_toInt_le.mp (z_nlt q)
    have r2 := Int32.lt_iff_toInt_lt.mp q1
    exfalso; omega
/-- peek: no throw on either side -/
theorem v_peek (h : zMe σ μ) (hr : zMr σ μ) {x : Int32} : zp2 (fX11_peek σ x) (fX12_peek μ x) (fun r r' => r.2 = r'.2) := by
  unfold fX11_peek fX12_peek
  refine zp2_bvr (fun μ1 e1 => ?_)
  have h1 : zMe σ μ1 := by
    obtain ⟨a1, a2, a3, a4, a5, a6⟩ := h
    have m : ∀ k, ¬ k = 0 → μ1.1 k = μ.1 k := fun k hk => by rw [e1]; exact zsi_ne hk
    have m0 : ∀ j, ¬ j = 0 → μ1.1 0 j = μ.1 0 j := fun j hj => by rw [e1]; exact zsi_nj hj
    refine ⟨fun j hj => by rw [m 5 (by decide)]; exact a1 j hj, fun j hj => by rw [m 6 (by decide)]; exact a2 j hj, fun j hj => by rw [m 3 (by decide)]; exact a3 j hj, by rw [m 3 (by decide)]; exact a4, a5.keep (fun _ _ => rfl) rfl (fun j hj => m0 j (fun r => by subst r; revert hj; decide)) (m 2 (by decide)), ?_⟩
    unfold zFil
    rw [m 2 (by decide), m0 5 (by decide), m0 6 (by decide)]
    exact a6
  have hr1 : zMr σ μ1 := by
    obtain ⟨b1, b2, b3, b4, b5, b6⟩ := hr
    have m : ∀ k, ¬ k = 0 → μ1.1 k = μ.1 k := fun k hk => by rw [e1]; exact zsi_ne hk
    have m0 : ∀ j, ¬ j = 0 → μ1.1 0 j = μ.1 0 j := fun j hj => by rw [e1]; exact zsi_nj hj
    exact ⟨b1, b2, by rw [m0 6 (by decide)]; exact b3, by rw [m0 7 (by decide)]; exact b4, by rw [m0 7 (by decide), m0 6 (by decide)]; exact b5, fun j j1 j2 => by rw [m 3 (by decide)]; exact b6 j j1 j2⟩
  rw [z_rdc]
  exact zp2_bii (z2_read h1 hr1) (fun _ _ _ _ q => zp2_some q.2.2)
end ZANS
end ZJN3
section ZJN4
/-! bits, modes, heights; answers at literal arguments -/
theorem z_byteF {b : Int32} (h : zr 0 255 b) : ∃ i : Fin 256, b = Int32.ofNat i.val := by
  obtain ⟨h0, h1⟩ := h
  obtain ⟨i, hi⟩ : ∃ i : Nat, b.toInt = i := ⟨b.toInt.toNat, by omega⟩
  exact ⟨⟨i, by omega⟩, z_ofN hi⟩
theorem z_b0f : ∀ i : Fin 256, ((Int32.ofNat i.val) >>> ((0 : Int32) &&& 31)) &&& 1 = if (Int32.ofNat i.val) &&& 1 = 0 then 0 else 1 := by decide +kernel
theorem z_b0 {b : Int32} (h : zr 0 255 b) : (b >>> ((0 : Int32) &&& 31)) &&& 1 = if b &&& 1 = 0 then 0 else 1 := by
  obtain ⟨i, e⟩ := z_byteF h
  rw [e]
  exact z_b0f i
theorem z_b1f : ∀ i : Fin 256, ((Int32.ofNat i.val) >>> ((1 : Int32) &&& 31)) &&& 1 = if (Int32.ofNat i.val) &&& 2 = 0 then 0 else 1 := by decide +kernel
theorem z_b1 {b : Int32} (h : zr 0 255 b) : (b >>> ((1 : Int32) &&& 31)) &&& 1 = if b &&& 2 = 0 then 0 else 1 := by
  obtain ⟨i, e⟩ := z_byteF h
  rw [e]
  exact z_b1f i
theorem z_b2f : ∀ i : Fin 256, ((Int32.ofNat i.val) >>> ((2 : Int32) &&& 31)) &&& 1 = if (Int32.ofNat i.val) &&& 4 = 0 then 0 else 1 := by decide +kernel
theorem z_b2 {b : Int32} (h : zr 0 255 b) : (b >>> ((2 : Int32) &&& 31)) &&& 1 = if b &&& 4 = 0 then 0 else 1 := by
  obtain ⟨i, e⟩ := z_byteF h
  rw [e]
  exact z_b2f i
theorem z_b3f : ∀ i : Fin 256, ((Int32.ofNat i.val) >>> ((3 : Int32) &&& 31)) &&& 1 = if (Int32.ofNat i.val) &&& 8 = 0 then 0 else 1 := by decide +kernel
theorem z_b3 {b : Int32} (h : zr 0 255 b) : (b >>> ((3 : Int32) &&& 31)) &&& 1 = if b &&& 8 = 0 then 0 else 1 := by
  obtain ⟨i, e⟩ := z_byteF h
  rw [e]
  exact z_b3f i
theorem z_b4f : ∀ i : Fin 256, ((Int32.ofNat i.val) >>> ((4 : Int32) &&& 31)) &&& 1 = if (Int32.ofNat i.val) &&& 16 = 0 then 0 else 1 := by decide +kernel
theorem z_b4 {b : Int32} (h : zr 0 255 b) : (b >>> ((4 : Int32) &&& 31)) &&& 1 = if b &&& 16 = 0 then 0 else 1 := by
  obtain ⟨i, e⟩ := z_byteF h
  rw [e]
  exact z_b4f i
theorem z_b5f : ∀ i : Fin 256, ((Int32.ofNat i.val) >>> ((5 : Int32) &&& 31)) &&& 1 = if (Int32.ofNat i.val) &&& 32 = 0 then 0 else 1 := by decide +kernel
theorem z_b5 {b : Int32} (h : zr 0 255 b) : (b >>> ((5 : Int32) &&& 31)) &&& 1 = if b &&& 32 = 0 then 0 else 1 := by
  obtain ⟨i, e⟩ := z_byteF h
  rw [e]
  exact z_b5f i
theorem z_b6f : ∀ i : Fin 256, ((Int32.ofNat i.val) >>> ((6 : Int32) &&& 31)) &&& 1 = if (Int32.ofNat i.val) &&& 64 = 0 then 0 else 1 := by decide +kernel
theorem z_b6 {b : Int32} (h : zr 0 255 b) : (b >>> ((6 : Int32) &&& 31)) &&& 1 = if b &&& 64 = 0 then 0 else 1 := by
  obtain ⟨i, e⟩ := z_byteF h
  rw [e]
  exact z_b6f i
theorem z_b7f : ∀ i : Fin 256, ((Int32.ofNat i.val) >>> ((7 : Int32) &&& 31)) &&& 1 = if (Int32.ofNat i.val) &&& 128 = 0 then 0 else 1 := by decide +kernel
theorem z_b7 {b : Int32} (h : zr 0 255 b) : (b >>> ((7 : Int32) &&& 31)) &&& 1 = if b &&& 128 = 0 then 0 else 1 := by
  obtain ⟨i, e⟩ := z_byteF h
  rw [e]
  exact z_b7f i
theorem z_s7f : ∀ i : Fin 256, (127 < Int32.ofNat i.val ↔ ¬ (Int32.ofNat i.val) &&& 128 = 0) := by decide +kernel
theorem z_s7 {b : Int32} (h : zr 0 255 b) : 127 < b ↔ ¬ b &&& 128 = 0 := by
  obtain ⟨i, e⟩ := z_byteF h
  rw [e]
  exact z_s7f i
theorem z_46f : ∀ i : Fin 256, ((Int32.ofNat i.val) &&& 6 = 6 ↔ (¬ (Int32.ofNat i.val) &&& 4 = 0 ∧ ¬ (Int32.ofNat i.val) &&& 2 = 0)) := by decide +kernel
theorem z_46 {b : Int32} (h : zr 0 255 b) : b &&& 6 = 6 ↔ (¬ b &&& 4 = 0 ∧ ¬ b &&& 2 = 0) := by
  obtain ⟨i, e⟩ := z_byteF h
  rw [e]
  exact z_46f i
theorem z_24f : ∀ i : Fin 256, ((Int32.ofNat i.val) &&& 24 = 8 ↔ ((Int32.ofNat i.val) &&& 16 = 0 ∧ ¬ (Int32.ofNat i.val) &&& 8 = 0)) ∧ ((Int32.ofNat i.val) &&& 24 = 16 ↔ (¬ (Int32.ofNat i.val) &&& 16 = 0 ∧ (Int32.ofNat i.val) &&& 8 = 0)) := by decide +kernel
theorem z_24 {b : Int32} (h : zr 0 255 b) : (b &&& 24 = 8 ↔ (b &&& 16 = 0 ∧ ¬ b &&& 8 = 0)) ∧ (b &&& 24 = 16 ↔ (¬ b &&& 16 = 0 ∧ b &&& 8 = 0)) := by
  obtain ⟨i, e⟩ := z_byteF h
  rw [e]
  exact z_24f i
theorem p_bit_0_1 {μ : zSt} (h : zr 0 255 (μ.1 3 47)) : zpc (fX12_bit μ 0 1) (fun x => x = (μ, if μ.1 3 47 &&& 2 = 0 then 0 else 1)) := by
  unfold fX12_bit
  refine zpc_ck (zpc_some ?_)
  show (μ, (μ.1 3 47 >>> ((1 : Int32) &&& 31)) &&& 1) = _
  rw [z_b1 h]
theorem p_bit_0_2 {μ : zSt} (h : zr 0 255 (μ.1 3 47)) : zpc (fX12_bit μ 0 2) (fun x => x = (μ, if μ.1 3 47 &&& 4 = 0 then 0 else 1)) := by
  unfold fX12_bit
  refine zpc_ck (zpc_some ?_)
  show (μ, (μ.1 3 47 >>> ((2 : Int32) &&& 31)) &&& 1) = _
  rw [z_b2 h]
theorem p_bit_0_3 {μ : zSt} (h : zr 0 255 (μ.1 3 47)) : zpc (fX12_bit μ 0 3) (fun x => x = (μ, if μ.1 3 47 &&& 8 = 0 then 0 else 1)) := by
  unfold fX12_bit
  refine zpc_ck (zpc_some ?_)
  show (μ, (μ.1 3 47 >>> ((3 : Int32) &&& 31)) &&& 1) = _
  rw [z_b3 h]
theorem p_bit_0_4 {μ : zSt} (h : zr 0 255 (μ.1 3 47)) : zpc (fX12_bit μ 0 4) (fun x => x = (μ, if μ.1 3 47 &&& 16 = 0 then 0 else 1)) := by
  unfold fX12_bit
  refine zpc_ck (zpc_some ?_)
  show (μ, (μ.1 3 47 >>> ((4 : Int32) &&& 31)) &&& 1) = _
  rw [z_b4 h]
theorem p_bit_0_5 {μ : zSt} (h : zr 0 255 (μ.1 3 47)) : zpc (fX12_bit μ 0 5) (fun x => x = (μ, if μ.1 3 47 &&& 32 = 0 then 0 else 1)) := by
  unfold fX12_bit
  refine zpc_ck (zpc_some ?_)
  show (μ, (μ.1 3 47 >>> ((5 : Int32) &&& 31)) &&& 1) = _
  rw [z_b5 h]
theorem p_bit_0_6 {μ : zSt} (h : zr 0 255 (μ.1 3 47)) : zpc (fX12_bit μ 0 6) (fun x => x = (μ, if μ.1 3 47 &&& 64 = 0 then 0 else 1)) := by
  unfold fX12_bit
  refine zpc_ck (zpc_some ?_)
  show (μ, (μ.1 3 47 >>> ((6 : Int32) &&& 31)) &&& 1) = _
  rw [z_b6 h]
theorem p_bit_0_7 {μ : zSt} (h : zr 0 255 (μ.1 3 47)) : zpc (fX12_bit μ 0 7) (fun x => x = (μ, if μ.1 3 47 &&& 128 = 0 then 0 else 1)) := by
  unfold fX12_bit
  refine zpc_ck (zpc_some ?_)
  show (μ, (μ.1 3 47 >>> ((7 : Int32) &&& 31)) &&& 1) = _
  rw [z_b7 h]
theorem p_bit_1_0 {μ : zSt} (h : zr 0 255 (μ.1 3 48)) : zpc (fX12_bit μ 1 0) (fun x => x = (μ, if μ.1 3 48 &&& 1 = 0 then 0 else 1)) := by
  unfold fX12_bit
  refine zpc_ck (zpc_some ?_)
  show (μ, (μ.1 3 48 >>> ((0 : Int32) &&& 31)) &&& 1) = _
  rw [z_b0 h]
theorem p_bit_1_1 {μ : zSt} (h : zr 0 255 (μ.1 3 48)) : zpc (fX12_bit μ 1 1) (fun x => x = (μ, if μ.1 3 48 &&& 2 = 0 then 0 else 1)) := by
  unfold fX12_bit
  refine zpc_ck (zpc_some ?_)
  show (μ, (μ.1 3 48 >>> ((1 : Int32) &&& 31)) &&& 1) = _
  rw [z_b1 h]
theorem p_bit_1_3 {μ : zSt} (h : zr 0 255 (μ.1 3 48)) : zpc (fX12_bit μ 1 3) (fun x => x = (μ, if μ.1 3 48 &&& 8 = 0 then 0 else 1)) := by
  unfold fX12_bit
  refine zpc_ck (zpc_some ?_)
  show (μ, (μ.1 3 48 >>> ((3 : Int32) &&& 31)) &&& 1) = _
  rw [z_b3 h]
theorem p_bit_1_4 {μ : zSt} (h : zr 0 255 (μ.1 3 48)) : zpc (fX12_bit μ 1 4) (fun x => x = (μ, if μ.1 3 48 &&& 16 = 0 then 0 else 1)) := by
  unfold fX12_bit
  refine zpc_ck (zpc_some ?_)
  show (μ, (μ.1 3 48 >>> ((4 : Int32) &&& 31)) &&& 1) = _
  rw [z_b4 h]
theorem p_bit_1_5 {μ : zSt} (h : zr 0 255 (μ.1 3 48)) : zpc (fX12_bit μ 1 5) (fun x => x = (μ, if μ.1 3 48 &&& 32 = 0 then 0 else 1)) := by
  unfold fX12_bit
  refine zpc_ck (zpc_some ?_)
  show (μ, (μ.1 3 48 >>> ((5 : Int32) &&& 31)) &&& 1) = _
  rw [z_b5 h]
theorem p_bit_1_6 {μ : zSt} (h : zr 0 255 (μ.1 3 48)) : zpc (fX12_bit μ 1 6) (fun x => x = (μ, if μ.1 3 48 &&& 64 = 0 then 0 else 1)) := by
  unfold fX12_bit
  refine zpc_ck (zpc_some ?_)
  show (μ, (μ.1 3 48 >>> ((6 : Int32) &&& 31)) &&& 1) = _
  rw [z_b6 h]
theorem p_bit_3_7 {μ : zSt} (h : zr 0 255 (μ.1 3 50)) : zpc (fX12_bit μ 3 7) (fun x => x = (μ, if μ.1 3 50 &&& 128 = 0 then 0 else 1)) := by
  unfold fX12_bit
  refine zpc_ck (zpc_some ?_)
  show (μ, (μ.1 3 50 >>> ((7 : Int32) &&& 31)) &&& 1) = _
  rw [z_b7 h]
theorem p_bit_4_2 {μ : zSt} (h : zr 0 255 (μ.1 3 51)) : zpc (fX12_bit μ 4 2) (fun x => x = (μ, if μ.1 3 51 &&& 4 = 0 then 0 else 1)) := by
  unfold fX12_bit
  refine zpc_ck (zpc_some ?_)
  show (μ, (μ.1 3 51 >>> ((2 : Int32) &&& 31)) &&& 1) = _
  rw [z_b2 h]
theorem p_bit_6_2 {μ : zSt} (h : zr 0 255 (μ.1 3 53)) : zpc (fX12_bit μ 6 2) (fun x => x = (μ, if μ.1 3 53 &&& 4 = 0 then 0 else 1)) := by
  unfold fX12_bit
  refine zpc_ck (zpc_some ?_)
  show (μ, (μ.1 3 53 >>> ((2 : Int32) &&& 31)) &&& 1) = _
  rw [z_b2 h]
def zmd (a b : Int32) : Int32 := if a &&& 4 = 0 then (if b &&& 16 = 0 then (if b &&& 8 = 0 then (if a &&& 2 = 0 then 0 else 2) else 3) else 1) else 4
def zht (a b : Int32) : Int32 := if a &&& 4 = 0 then 192 else (if a &&& 2 = 0 then 192 else (if b &&& 16 = 0 then (if b &&& 8 = 0 then 192 else 240) else (if b &&& 8 = 0 then 224 else 192)))
section ZMH
variable {σ μ : zSt}
theorem p_modeC : zpc (fX9_mode σ ) (fun r => r = (σ, zmd (σ.1 23 0) (σ.1 23 1))) := by
  unfold fX9_mode fX9_mode_57 zmd
  refine zpc_ck (zpc_if (fun q1 => zpc_ck (zpc_if (fun q2 => zpc_ck (zpc_if (fun q3 => zpc_ck (zpc_if (fun q4 => zpc_some ?_) (fun q4 => zpc_some ?_))) (fun q3 => zpc_some ?_))) (fun q2 => zpc_some ?_))) (fun q1 => zpc_some ?_))
  · rw [if_pos (show σ.1 23 0 &&& 4 = 0 from q1), if_pos (show σ.1 23 1 &&& 16 = 0 from q2), if_pos (show σ.1 23 1 &&& 8 = 0 from q3), if_pos (show σ.1 23 0 &&& 2 = 0 from q4)]
  · rw [if_pos (show σ.1 23 0 &&& 4 = 0 from q1), if_pos (show σ.1 23 1 &&& 16 = 0 from q2), if_pos (show σ.1 23 1 &&& 8 = 0 from q3), if_neg (show ¬ σ.1 23 0 &&& 2 = 0 from q4)]
  · rw [if_pos (show σ.1 23 0 &&& 4 = 0 from q1), if_pos (show σ.1 23 1 &&& 16 = 0 from q2), if_neg (show ¬ σ.1 23 1 &&& 8 = 0 from q3)]
  · rw [if_pos (show σ.1 23 0 &&& 4 = 0 from q1), if_neg (show ¬ σ.1 23 1 &&& 16 = 0 from q2)]
  · rw [if_neg (show ¬ σ.1 23 0 &&& 4 = 0 from q1)]
theorem zpc_bit {α : Type} {c : Prop} {d : Decidable c} {q : Option (zSt × Int32)} {f : zSt → Int32 → Option α} {Q : α → Prop} (h : zpc q (fun x => x = (μ, @ite _ c d 0 1))) (k0 : c → zpc (f μ 0) Q) (k1 : ¬ c → zpc (f μ 1) Q) : zpc (zbi q f) Q := by
  refine zpc_bi h (fun s v e => ?_)
  by_cases g : c
  · rw [if_pos g] at e; cases e; exact k0 g
  · rw [if_neg g] at e; cases e; exact k1 g
theorem p_modeM (h0 : zr 0 255 (μ.1 3 47)) (h1 : zr 0 255 (μ.1 3 48)) : zpc (fX12_mode μ ) (fun r => r = (μ, zmd (μ.1 3 47) (μ.1 3 48))) := by
  unfold fX12_mode fX12_mode_57 zmd
  refine zpc_bit (p_bit_0_2 h0) (fun q1 => ?_) (fun q1 => zpc_if (fun _ => zpc_some (by rw [if_neg q1])) (fun r => absurd rfl r))
  refine zpc_if (fun r => absurd r (by decide)) (fun _ => ?_)
  refine zpc_bit (p_bit_1_4 h1) (fun q2 => ?_) (fun q2 => zpc_if (fun _ => zpc_some (by rw [if_pos q1, if_neg q2])) (fun r => absurd rfl r))
  refine zpc_if (fun r => absurd r (by decide)) (fun _ => ?_)
  refine zpc_bit (p_bit_1_3 h1) (fun q3 => ?_) (fun q3 => zpc_if (fun _ => zpc_some (by rw [if_pos q1, if_pos q2, if_neg q3])) (fun r => absurd rfl r))
  refine zpc_if (fun r => absurd r (by decide)) (fun _ => ?_)
  refine zpc_bit (p_bit_0_1 h0) (fun q4 => ?_) (fun q4 => zpc_if (fun _ => zpc_some (by rw [if_pos q1, if_pos q2, if_pos q3, if_neg q4])) (fun r => absurd rfl r))
  exact zpc_if (fun r => absurd r (by decide)) (fun _ => zpc_some (by rw [if_pos q1, if_pos q2, if_pos q3, if_pos q4]))
theorem zmd4 {a b : Int32} : zmd a b = 4 ↔ ¬ a &&& 4 = 0 := by
  unfold zmd
  constructor
  · intro h q
    rw [if_pos q] at h
    split at h
    · split at h
      · split at h <;> exact absurd h (by decide)
      · exact absurd h (by decide)
    · exact absurd h (by decide)
  · intro q; rw [if_neg q]
theorem p_heightC (h0 : zr 0 255 (σ.1 23 0)) (h1 : zr 0 255 (σ.1 23 1)) : zpc (fX9_height σ ) (fun r => r = (σ, zht (σ.1 23 0) (σ.1 23 1))) := by
  unfold fX9_height zht
  have e6 := z_46 h0
  have e24 := z_24 h1
  refine zpc_ck (zpc_if (fun q => zpc_ck (zpc_if (fun r => zpc_some ?_) (fun r => zpc_if (fun t => zpc_some ?_) (fun t => zpc_some ?_)))) (fun q => zpc_some ?_))
  · obtain ⟨a, b⟩ := e6.mp q
    obtain ⟨c, d⟩ := e24.1.mp r
    rw [if_neg a, if_neg b, if_pos c, if_neg d]
  · obtain ⟨a, b⟩ := e6.mp q
    obtain ⟨c, d⟩ := e24.2.mp t
    rw [if_neg a, if_neg b, if_neg c, if_pos d]
  · obtain ⟨a, b⟩ := e6.mp q
    rw [if_neg a, if_neg b]
    by_cases c : σ.1 23 1 &&& 16 = 0
    · by_cases d : σ.1 23 1 &&& 8 = 0
      · rw [if_pos c, if_pos d]
      · exact absurd (e24.1.mpr ⟨c, d⟩) r
    · by_cases d : σ.1 23 1 &&& 8 = 0
      · exact absurd (e24.2.mpr ⟨c, d⟩) t
      · rw [if_neg c, if_neg d]
  · by_cases a : σ.1 23 0 &&& 4 = 0
    · rw [if_pos a]
    · by_cases b : σ.1 23 0 &&& 2 = 0
      · rw [if_neg a, if_pos b]
      · exact absurd (e6.mpr ⟨a, b⟩) q
theorem p_heightM (h0 : zr 0 255 (μ.1 3 47)) (h1 : zr 0 255 (μ.1 3 48)) : zpc (fX12_height μ ) (fun r => r = (μ, zht (μ.1 3 47) (μ.1 3 48))) := by
  unfold fX12_height fX12_height_32 fX12_height_55 zht
  refine zpc_bi (p_modeM h0 h1) (fun μ1 v e => ?_)
  cases e
  refine zpc_if (fun q => ?_) (fun q => zpc_some ?_)
  · have a := zmd4.mp q
    rw [if_neg a]
    refine zpc_bit (p_bit_0_1 h0) (fun b => zpc_if (fun _ => zpc_some (by rw [if_pos b])) (fun r => absurd rfl r)) (fun b => ?_)
    refine zpc_if (fun r => absurd r (by decide)) (fun _ => ?_)
    rw [if_neg b]
    refine zpc_bit (p_bit_1_4 h1) (fun c => ?_) (fun c => ?_)
    · rw [if_pos c]
      refine zpc_bit (p_bit_1_3 h1) (fun d => zpc_if (fun _ => zpc_some (by rw [if_pos d])) (fun r => absurd rfl r)) (fun d => ?_)
      refine zpc_if (fun r => absurd r (by decide)) (fun _ => ?_)
      refine zpc_bit (p_bit_1_4 h1) (fun _ => ?_) (fun c' => absurd c c')
      exact zpc_if (fun r => absurd r (by decide)) (fun _ => zpc_some (by rw [if_neg d]))
    · rw [if_neg c]
      refine zpc_bit (p_bit_1_3 h1) (fun d => ?_) (fun d => zpc_if (fun _ => zpc_some (by rw [if_neg d])) (fun r => absurd rfl r))
      refine zpc_if (fun r => absurd r (by decide)) (fun _ => ?_)
      refine zpc_bit (p_bit_1_4 h1) (fun c' => absurd c' c) (fun _ => ?_)
      exact zpc_if (fun _ => zpc_some (by rw [if_pos d])) (fun r => absurd rfl r)
  · have a : μ.1 3 47 &&& 4 = 0 := by
      by_cases a : μ.1 3 47 &&& 4 = 0
      · exact a
      · exact absurd (zmd4.mpr a) q
    rw [if_pos a]
def zhc (b : Int32) : Int32 := if (b * 3) / 4 < 148 then (b * 3) / 4 else (b * 3) / 4 + 85
theorem p_hCountC : zpc (fX9_hCount σ ) (fun r => r = (σ, zhc (σ.1 23 21))) := by
  unfold fX9_hCount fX9_hCount_27 zhc
  refine zpc_ck (zpc_ck (zpc_bv (fun v e => ?_)))
  subst e
  exact zpc_if (fun q => zpc_some (by rw [if_pos (show (σ.1 23 21 * 3) / 4 < 148 from q)]; rfl)) (fun q => zpc_some (by rw [if_neg (show ¬ (σ.1 23 21 * 3) / 4 < 148 from q)]; rfl))
theorem p_hCountM : zpc (fX12_hCount μ ) (fun r => r = (μ, zhc (μ.1 3 67))) := by
  unfold fX12_hCount fX12_hCount_27 zhc
  refine zpc_ck (zpc_ck (zpc_bv (fun v e => ?_)))
  subst e
  exact zpc_if (fun q => zpc_some (by rw [if_neg (show ¬ (μ.1 3 67 * 3) / 4 < 148 from fun r => absurd (Int32.lt_iff_toInt_lt.mp r) (Int.not_lt.mpr (Int32.le_iff_toInt_le.mp q)))]; rfl)) (fun q => zpc_some (by rw [if_pos (show (μ.1 3 67 * 3) / 4 < 148 from z_nle q)]; rfl))
def zvc (l h k : Int32) : Int32 := (if (if k = 1 then (if h = 192 then 243 else if h = 224 then 259 else 267) else (if h = 192 then 219 else if h = 224 then 235 else (262 : Int32))) ≤ l then l - (if k = 1 then 57 else 6) else l) &&& 255
theorem p_vCountC {k : Int32} (h0 : zr 0 255 (σ.1 23 0)) (h1 : zr 0 255 (σ.1 23 1)) (hk : σ.1 2 1 = if k = 1 then 313 else 262) : zpc (fX9_vCount σ ) (fun r => r = (σ, zvc (σ.1 23 20) (zht (σ.1 23 0) (σ.1 23 1)) k)) := by
  unfold fX9_vCount
  refine zpc_bi (p_heightC h0 h1) (fun σ1 v e => ?_)
  cases e
  generalize zht (σ.1 23 0) (σ.1 23 1) = h
  have fin : ∀ f m : Int32, zpc (fX9_vCount_97 σ m f) (fun r => r = (σ, (if f ≤ σ.1 23 20 then σ.1 23 20 - (if m = 0 then 6 else 57) else σ.1 23 20) &&& 255)) := fun f m => by
    unfold fX9_vCount_97 fX9_vCount_136 fX9_vCount_137
    refine zpc_ck (zpc_if (fun q => zpc_ck (zpc_if (fun r => zpc_some ?_) (fun r => zpc_some ?_))) (fun q => zpc_ck (zpc_some ?_)))
    · rw [if_pos (show f ≤ σ.1 23 20 from q), if_pos r]; rfl
    · rw [if_pos (show f ≤ σ.1 23 20 from q), if_neg r]; rfl
    · rw [if_neg (show ¬ f ≤ σ.1 23 20 from q)]; rfl
  unfold fX9_vCount_20 fX9_vCount_61 fX9_vCount_78 fX9_vCount_96 zvc
  by_cases k1 : k = 1
  · rw [if_pos k1] at hk
    rw [if_pos k1, if_pos k1]
    refine zpc_if (fun _ => ?_) (fun q => absurd hk q)
    refine zpc_if (fun a => zpc_if (fun r => absurd r (by decide)) (fun _ => ?_)) (fun a => zpc_if (fun b => zpc_if (fun r => absurd r (by decide)) (fun _ => ?_)) (fun b => zpc_if (fun r => absurd r (by decide)) (fun _ => ?_)))
    · rw [if_pos a]; exact fin 243 1
    · rw [if_neg a, if_pos b]; exact fin 259 1
    · rw [if_neg a, if_neg b]; exact fin 267 1
  · rw [if_neg k1] at hk
    rw [if_neg k1, if_neg k1]
    refine zpc_if (fun q => absurd (hk.symm.trans q) (by decide)) (fun _ => ?_)
    refine zpc_if (fun a => zpc_if (fun _ => ?_) (fun r => absurd rfl r)) (fun a => zpc_if (fun b => zpc_if (fun _ => ?_) (fun r => absurd rfl r)) (fun b => zpc_if (fun _ => ?_) (fun r => absurd rfl r)))
    · rw [if_pos a]; exact fin 219 0
    · rw [if_neg a, if_pos b]; exact fin 235 0
    · rw [if_neg a, if_neg b, show zgi σ 2 1 = 262 from hk]; exact fin 262 0
theorem p_vCountM (h0 : zr 0 255 (μ.1 3 47)) (h1 : zr 0 255 (μ.1 3 48)) (hl : zr 0 312 (μ.1 3 66)) (hl2 : ¬ μ.1 0 3 = 1 → zr 0 261 (μ.1 3 66)) : zpc (fX12_vCount μ ) (fun r => r = (μ, zvc (μ.1 3 66) (zht (μ.1 3 47) (μ.1 3 48)) (μ.1 0 3))) := by
  unfold fX12_vCount
  refine zpc_ck (zpc_bv (fun v e => ?_))
  subst e
  refine zpc_bi (p_heightM h0 h1) (fun μ1 w e => ?_)
  cases e
  generalize zht (μ.1 3 47) (μ.1 3 48) = h
  have fin : ∀ f : Int32, zpc (fX12_vCount_82 μ (μ.1 3 66) f) (fun r => r = (μ, (if f ≤ μ.1 3 66 then μ.1 3 66 - (if μ.1 0 3 = 1 then 57 else 6) else μ.1 3 66) &&& 255)) := fun f => by
    unfold fX12_vCount_82 fX12_vCount_108 fX12_vCount_109
    refine zpc_if (fun q => zpc_if (fun r => zpc_some ?_) (fun r => zpc_some ?_)) (fun q => zpc_some ?_)
    · rw [if_pos q, if_pos (show μ.1 0 3 = 1 from r)]
    · rw [if_pos q, if_neg (show ¬ μ.1 0 3 = 1 from r)]
    · rw [if_neg q]
  unfold zvc
  refine zpc_if (fun k1 => ?_) (fun k1 => ?_)
  · rw [if_pos (show μ.1 0 3 = 1 from k1)]
    refine zpc_if (fun a => ?_) (fun a => zpc_if (fun b => ?_) (fun b => ?_))
    · rw [if_pos a]; exact fin 243
    · rw [if_neg a, if_pos b]; exact fin 259
    · rw [if_neg a, if_neg b]; exact fin 267
  · rw [if_neg (show ¬ μ.1 0 3 = 1 from k1)]
    refine zpc_if (fun a => ?_) (fun a => zpc_if (fun b => ?_) (fun b => ?_))
    · rw [if_pos a]; exact fin 219
    · rw [if_neg a, if_pos b]; exact fin 235
    · rw [if_neg a, if_neg b]
      have f := fin 1000
      rw [if_neg (zq_gef (hl2 k1) (k := 1000) rfl (by decide))] at f
      rw [if_neg (zq_gef (hl2 k1) (k := 262) rfl (by decide))]
      exact f
def zak (a b c d : Int32) : Int32 := if b &&& 32 = 0 then (if a &&& 16 = 0 then 0 else if d = 1 then 1 else 0) else (if c &&& 128 = 0 then (if a &&& 16 = 0 then 0 else if d = 1 then 1 else 0) else 1)
theorem p_asksC : zpc (fX9_asks σ ) (fun r => r = (σ, zak (σ.1 23 0) (σ.1 23 1) (σ.1 23 15) (σ.1 23 16))) := by
  unfold fX9_asks
  have fin : zpc (fX9_asks_26 σ ) (fun r => r = (σ, if σ.1 23 0 &&& 16 = 0 then 0 else if σ.1 23 16 = 1 then 1 else 0)) := by
    unfold fX9_asks_26 fX9_asks_49 fX9_asks_53 fX9_asks_54
    refine zpc_ck (zpc_if (fun q => zpc_ck (zpc_some ?_)) (fun q => zpc_ck (zpc_if (fun r => zpc_ck (zpc_some ?_)) (fun r => zpc_ck (zpc_some ?_)))))
    · rw [if_pos (show σ.1 23 0 &&& 16 = 0 from q)]
    · rw [if_neg (show ¬ σ.1 23 0 &&& 16 = 0 from q), if_pos (show σ.1 23 16 = 1 from r)]
    · rw [if_neg (show ¬ σ.1 23 0 &&& 16 = 0 from q), if_neg (show ¬ σ.1 23 16 = 1 from r)]
  unfold fX9_asks_49 fX9_asks_54 zak
  refine zpc_ck (zpc_if (fun q => ?_) (fun q => zpc_ck (zpc_if (fun r => ?_) (fun r => zpc_ck (zpc_some ?_)))))
  · rw [if_pos (show σ.1 23 1 &&& 32 = 0 from q)]; exact fin
  · rw [if_neg (show ¬ σ.1 23 1 &&& 32 = 0 from q), if_pos (show σ.1 23 15 &&& 128 = 0 from r)]; exact fin
  · rw [if_neg (show ¬ σ.1 23 1 &&& 32 = 0 from q), if_neg (show ¬ σ.1 23 15 &&& 128 = 0 from r)]
theorem p_asksM (h0 : zr 0 255 (μ.1 3 47)) (h1 : zr 0 255 (μ.1 3 48)) (h2 : zr 0 255 (μ.1 3 62)) : zpc (fX12_asks μ ) (fun r => r = (μ, zak (μ.1 3 47) (μ.1 3 48) (μ.1 3 62) (μ.1 3 63))) := by
  unfold fX12_asks
  have fin : zpc (fX12_asks_22 μ ) (fun r => r = (μ, if μ.1 3 47 &&& 16 = 0 then 0 else if μ.1 3 63 = 1 then 1 else 0)) := by
    unfold fX12_asks_22 fX12_asks_43 fX12_asks_47 fX12_asks_48
    refine zpc_bit (p_bit_0_4 h0) (fun q => zpc_if (fun r => absurd r (by decide)) (fun _ => zpc_ck (zpc_some (by rw [if_pos q])))) (fun q => ?_)
    refine zpc_if (fun _ => zpc_ck (zpc_if (fun r => zpc_ck (zpc_some ?_)) (fun r => zpc_ck (zpc_some ?_)))) (fun r => absurd rfl r)
    · rw [if_neg q, if_pos (show μ.1 3 63 = 1 from r)]
    · rw [if_neg q, if_neg (show ¬ μ.1 3 63 = 1 from r)]
  unfold fX12_asks_43 fX12_asks_48 zak
  refine zpc_bit (p_bit_1_5 h1) (fun q => zpc_if (fun r => absurd r (by decide)) (fun _ => by rw [if_pos q]; exact fin)) (fun q => ?_)
  refine zpc_if (fun _ => zpc_ck (zpc_if (fun r => zpc_ck (zpc_some ?_)) (fun r => ?_))) (fun r => absurd rfl r)
  · rw [if_neg q, if_neg ((z_s7 h2).mp r)]
  · have n : μ.1 3 62 &&& 128 = 0 := by
      by_cases n : μ.1 3 62 &&& 128 = 0
      · exact n
      · exact absurd ((z_s7 h2).mpr n) r
    rw [if_neg q, if_pos n]; exact fin
end ZMH
end ZJN4
section ZJN5
/-! FLAGS -/
theorem zpc_j {α : Type} {c : Prop} {d : Decidable c} {K : Int32 → Option α} {a b : Int32} {Q : α → Prop} (h : ∀ v, v = @ite _ c d a b → zpc (K v) Q) : zpc (@ite _ c d (K a) (K b)) Q := by
  by_cases q : c
  · rw [if_pos q]; exact h a (if_pos q).symm
  · rw [if_neg q]; exact h b (if_neg q).symm
theorem zsi_own {ν : zSt} {k j : Nat} : zsi ν k j (ν.1 k j) = ν := by
  refine Prod.ext (funext fun a => funext fun b => ?_) rfl
  rw [zsi_at]
  by_cases q : a = k ∧ b = j
  · rw [if_pos q, q.1, q.2]
  · rw [if_neg q]
theorem zsi_ow {ν : zSt} {k j : Nat} {v w : Int32} : zsi (zsi ν k j v) k j w = zsi ν k j w := by
  refine Prod.ext (funext fun a => funext fun b => ?_) rfl
  rw [zsi_at, zsi_at, zsi_at]
  by_cases q : a = k ∧ b = j
  · rw [if_pos q, if_pos q]
  · rw [if_neg q, if_neg q, if_neg q]
/-- the reference: a flag is put -/
def pt (f b v : Int32) : Int32 := if v = 0 then f &&& ((1 <<< (b &&& 31)) ^^^ (-1)) else f ||| (1 <<< (b &&& 31))
def gxy (f x : Int32) : Int32 := pt (pt f 5 (if x &&& 32 = 0 then 0 else 1)) 3 (if x &&& 8 = 0 then 0 else 1)
def gby (f x : Int32) : Int32 := gxy (pt (pt f 7 (if x &&& 128 = 0 then 0 else 1)) 6 (if x = 0 then 1 else 0)) x
def gsm (v : Int32) : Int32 := 0 + ((v >>> ((0 : Int32) &&& 31)) &&& 1) + ((v >>> ((1 : Int32) &&& 31)) &&& 1) + ((v >>> ((2 : Int32) &&& 31)) &&& 1) + ((v >>> ((3 : Int32) &&& 31)) &&& 1) + ((v >>> ((4 : Int32) &&& 31)) &&& 1) + ((v >>> ((5 : Int32) &&& 31)) &&& 1) + ((v >>> ((6 : Int32) &&& 31)) &&& 1) + ((v >>> ((7 : Int32) &&& 31)) &&& 1)
def gev (v : Int32) : Int32 := if zrem (gsm v) 2 = 0 then 1 else 0
section ZFL
variable {μ σ : zSt} {f b v x : Int32}
theorem p_put : zpc (fX12_put (zsi μ 3 1 f) b v) (fun r => r = zsi μ 3 1 (pt f b v)) := by
  unfold fX12_put fX12_put_34 pt
  refine zpc_if (fun q => zpc_ck (zpc_ck (zpc_bv (fun s e => zpc_some ?_)))) (fun q => zpc_ck (zpc_ck (zpc_bv (fun s e => zpc_some ?_))))
  · rw [if_pos q, e]; exact zsi_ow
  · rw [if_neg q, e]; exact zsi_ow
theorem p_xy : zpc (fX12_xy (zsi μ 3 1 f) x) (fun r => r = zsi μ 3 1 (gxy f x)) := by
  unfold fX12_xy
  refine zpc_j (K := fun v => fX12_xy_14 (zsi μ 3 1 f) x v 5) (a := 0) (b := 1) (fun v ev => ?_)
  unfold fX12_xy_14
  refine zpc_bu p_put (fun s e => ?_)
  subst e
  refine zpc_j (K := fun w => fX12_xy_31 (zsi μ 3 1 (pt f 5 v)) w 3) (a := 0) (b := 1) (fun w ew => ?_)
  unfold fX12_xy_31
  refine zpc_bu p_put (fun s e => zpc_some ?_)
  rw [e, ev, ew]
  rfl
theorem p_by : zpc (fX12_by (zsi μ 3 1 f) x) (fun r => r = zsi μ 3 1 (gby f x)) := by
  unfold fX12_by
  refine zpc_j (K := fun v => fX12_by_16 (zsi μ 3 1 f) x v 7) (a := 0) (b := 1) (fun v ev => ?_)
  unfold fX12_by_16
  refine zpc_bu p_put (fun s e => ?_)
  subst e
  refine zpc_j (K := fun w => fX12_by_31 (zsi μ 3 1 (pt f 7 v)) x w 6) (a := 1) (b := 0) (fun w ew => ?_)
  unfold fX12_by_31
  refine zpc_bu p_put (fun s e => ?_)
  subst e
  refine zpc_bu p_xy (fun s e => zpc_some ?_)
  rw [e, ev, ew]
  rfl
theorem p_flag : zpc (fX12_flag μ b) (fun r => r = (μ, (μ.1 3 1 >>> (b &&& 31)) &&& 1)) := by
  unfold fX12_flag
  exact zpc_ck (zpc_some rfl)
theorem e_even (n : Nat) : fX12_isEven_4 (n + 9) μ v 0 0 = zck (decide (¬ (2 : Int32) = 0)) (if zrem (gsm v) 2 = 0 then fX12_isEven_35 μ 1 else fX12_isEven_35 μ 0) := rfl
theorem p_even : zpc (fX12_isEven μ v) (fun r => r = (μ, gev v)) := by
  unfold fX12_isEven
  have e : fX12_isEven_4 zfuel μ v 0 0 = _ := e_even (μ := μ) (v := v) 1999991
  rw [e]
  unfold fX12_isEven_35 gev
  refine zpc_ck (zpc_if (fun q => zpc_ck (zpc_some ?_)) (fun q => zpc_ck (zpc_some ?_)))
  · rw [if_pos q]
  · rw [if_neg q]
theorem p_signed : zpc (fX12_signed μ v) (fun r => r = (μ, if 128 ≤ v then v - 256 else v)) := by
  unfold fX12_signed fX12_signed_16
  exact zpc_if (fun q => zpc_some (by rw [if_pos q])) (fun q => zpc_some (by rw [if_neg q]))
/-! the class -/
def cby (x : Int32) : Int32 := (x &&& 168) ||| (if x = 0 then 64 else 0)
def gbc (x : Int32) : Int32 :=
  let v1 := x - ((zush x 1) &&& 1431655765)
  let v2 := (v1 &&& 858993459) + ((zush v1 2) &&& 858993459)
  let v3 := (v2 + (zush v2 4)) &&& 252645135
  let v4 := v3 + (zush v3 8)
  (v4 + (zush v4 16)) &&& 63
def cpar (x : Int32) : Int32 := if (gbc x) &&& 1 = 0 then 4 else 0
theorem p_byC : zpc (fX5_by σ x) (fun r => r = (σ, cby x)) := by
  unfold fX5_by fX5_by_15 cby
  exact zpc_if (fun q => zpc_some (by rw [if_pos q])) (fun q => zpc_some (by rw [if_neg q]))
theorem p_parC : zpc (fX5_parity σ x) (fun r => r = (σ, cpar x)) := by
  unfold fX5_parity fX5_parity_14 cpar
  refine zpc_bi (P := fun r => r = (σ, gbc x)) (fun r e => ?_) (fun s w e => ?_)
  · have e : some (σ, gbc x) = some r := e
    cases e
    rfl
  · cases e
    exact zpc_if (fun q => zpc_some (by rw [if_pos q])) (fun q => zpc_some (by rw [if_neg q]))
end ZFL
def zfl (b7 b6 b5 b4 b3 b2 b1 b0 : Bool) : Int32 := (bif b7 then 128 else 0) ||| (bif b6 then 64 else 0) ||| (bif b5 then 32 else 0) ||| (bif b4 then 16 else 0) ||| (bif b3 then 8 else 0) ||| (bif b2 then 4 else 0) ||| (bif b1 then 2 else 0) ||| (bif b0 then 1 else 0)
theorem pt_0 {b7 b6 b5 b4 b3 b2 b1 b0 : Bool} {v : Int32} : pt (zfl b7 b6 b5 b4 b3 b2 b1 b0) 0 v = zfl b7 b6 b5 b4 b3 b2 b1 (decide (¬ v = 0)) := by
  unfold pt
  by_cases h : v = 0
  · rw [if_pos h, show decide (¬ v = 0) = false from decide_eq_false (fun r => r h)]
    revert b7 b6 b5 b4 b3 b2 b1 b0
    decide
  · rw [if_neg h, show decide (¬ v = 0) = true from decide_eq_true h]
    revert b7 b6 b5 b4 b3 b2 b1 b0
    decide
theorem pt_1 {b7 b6 b5 b4 b3 b2 b1 b0 : Bool} {v : Int32} : pt (zfl b7 b6 b5 b4 b3 b2 b1 b0) 1 v = zfl b7 b6 b5 b4 b3 b2 (decide (¬ v = 0)) b0 := by
  unfold pt
  by_cases h : v = 0
  · rw [if_pos h, show decide (¬ v = 0) = false from decide_eq_false (fun r => r h)]
    revert b7 b6 b5 b4 b3 b2 b1 b0
    decide
  · rw [if_neg h, show decide (¬ v = 0) = true from decide_eq_true h]
    revert b7 b6 b5 b4 b3 b2 b1 b0
    decide
theorem pt_2 {b7 b6 b5 b4 b3 b2 b1 b0 : Bool} {v : Int32} : pt (zfl b7 b6 b5 b4 b3 b2 b1 b0) 2 v = zfl b7 b6 b5 b4 b3 (decide (¬ v = 0)) b1 b0 := by
  unfold pt
  by_cases h : v = 0
  · rw [if_pos h, show decide (¬ v = 0) = false from decide_eq_false (fun r => r h)]
    revert b7 b6 b5 b4 b3 b2 b1 b0
    decide
  · rw [if_neg h, show decide (¬ v = 0) = true from decide_eq_true h]
    revert b7 b6 b5 b4 b3 b2 b1 b0
    decide
theorem pt_3 {b7 b6 b5 b4 b3 b2 b1 b0 : Bool} {v : Int32} : pt (zfl b7 b6 b5 b4 b3 b2 b1 b0) 3 v = zfl b7 b6 b5 b4 (decide (¬ v = 0)) b2 b1 b0 := by
  unfold pt
  by_cases h : v = 0
  · rw [if_pos h, show decide (¬ v = 0) = false from decide_eq_false (fun r => r h)]
    revert b7 b6 b5 b4 b3 b2 b1 b0
    decide
  · rw [if_neg h, show decide (¬ v = 0) = true from decide_eq_true h]
    revert b7 b6 b5 b4 b3 b2 b1 b0
    decide
theorem pt_4 {b7 b6 b5 b4 b3 b2 b1 b0 : Bool} {v : Int32} : pt (zfl b7 b6 b5 b4 b3 b2 b1 b0) 4 v = zfl b7 b6 b5 (decide (¬ v = 0)) b3 b2 b1 b0 := by
  unfold pt
  by_cases h : v = 0
  · rw [if_pos h, show decide (¬ v = 0) = false from decide_eq_false (fun r => r h)]
    revert b7 b6 b5 b4 b3 b2 b1 b0
    decide
  · rw [if_neg h, show decide (¬ v = 0) = true from decide_eq_true h]
    revert b7 b6 b5 b4 b3 b2 b1 b0
    decide
theorem pt_5 {b7 b6 b5 b4 b3 b2 b1 b0 : Bool} {v : Int32} : pt (zfl b7 b6 b5 b4 b3 b2 b1 b0) 5 v = zfl b7 b6 (decide (¬ v = 0)) b4 b3 b2 b1 b0 := by
  unfold pt
  by_cases h : v = 0
  · rw [if_pos h, show decide (¬ v = 0) = false from decide_eq_false (fun r => r h)]
    revert b7 b6 b5 b4 b3 b2 b1 b0
    decide
  · rw [if_neg h, show decide (¬ v = 0) = true from decide_eq_true h]
    revert b7 b6 b5 b4 b3 b2 b1 b0
    decide
theorem pt_6 {b7 b6 b5 b4 b3 b2 b1 b0 : Bool} {v : Int32} : pt (zfl b7 b6 b5 b4 b3 b2 b1 b0) 6 v = zfl b7 (decide (¬ v = 0)) b5 b4 b3 b2 b1 b0 := by
  unfold pt
  by_cases h : v = 0
  · rw [if_pos h, show decide (¬ v = 0) = false from decide_eq_false (fun r => r h)]
    revert b7 b6 b5 b4 b3 b2 b1 b0
    decide
  · rw [if_neg h, show decide (¬ v = 0) = true from decide_eq_true h]
    revert b7 b6 b5 b4 b3 b2 b1 b0
    decide
theorem pt_7 {b7 b6 b5 b4 b3 b2 b1 b0 : Bool} {v : Int32} : pt (zfl b7 b6 b5 b4 b3 b2 b1 b0) 7 v = zfl (decide (¬ v = 0)) b6 b5 b4 b3 b2 b1 b0 := by
  unfold pt
  by_cases h : v = 0
  · rw [if_pos h, show decide (¬ v = 0) = false from decide_eq_false (fun r => r h)]
    revert b7 b6 b5 b4 b3 b2 b1 b0
    decide
  · rw [if_neg h, show decide (¬ v = 0) = true from decide_eq_true h]
    revert b7 b6 b5 b4 b3 b2 b1 b0
    decide
theorem fl_f : ∀ i : Fin 256, Int32.ofNat i.val = zfl (decide (¬ Int32.ofNat i.val &&& 128 = 0)) (decide (¬ Int32.ofNat i.val &&& 64 = 0)) (decide (¬ Int32.ofNat i.val &&& 32 = 0)) (decide (¬ Int32.ofNat i.val &&& 16 = 0)) (decide (¬ Int32.ofNat i.val &&& 8 = 0)) (decide (¬ Int32.ofNat i.val &&& 4 = 0)) (decide (¬ Int32.ofNat i.val &&& 2 = 0)) (decide (¬ Int32.ofNat i.val &&& 1 = 0)) := by decide +kernel
theorem fl_of {f : Int32} (h : zr 0 255 f) : f = zfl (decide (¬ f &&& 128 = 0)) (decide (¬ f &&& 64 = 0)) (decide (¬ f &&& 32 = 0)) (decide (¬ f &&& 16 = 0)) (decide (¬ f &&& 8 = 0)) (decide (¬ f &&& 4 = 0)) (decide (¬ f &&& 2 = 0)) (decide (¬ f &&& 1 = 0)) := by
  obtain ⟨i, e⟩ := z_byteF h
  rw [e]
  exact fl_f i
end ZJN5
section ZJN6
/-! BOTH PROCESSORS: what belongs together within an instruction -/
def zsub (R : List Nat) (A : List (Nat × Nat × Nat)) (R' : List Nat) (A' : List (Nat × Nat × Nat)) : Bool := R.all (fun k => R'.any (Nat.beq k)) && A.all (fun e => R'.any (Nat.beq e.1) || A'.any (fun d => Nat.beq d.1 e.1 && (Nat.ble d.2.1 e.2.1 && Nat.ble e.2.2 d.2.2)))
theorem zcv_sub {R R' : List Nat} {A A' : List (Nat × Nat × Nat)} (c : zsub R A R' A' = true) {k j : Nat} (h : zcv R' A' k j = false) : zcv R A k j = false := by
  unfold zsub at c
  rw [Bool.and_eq_true, List.all_eq_true, List.all_eq_true] at c
  unfold zcv at h ⊢
  rw [Bool.or_eq_false_iff] at h
  rw [Bool.or_eq_false_iff]
  refine ⟨?_, ?_⟩
  · rw [List.any_eq_false] at *
    intro x hx q
    have a := c.1 x hx
    rw [List.any_eq_true] at a
    obtain ⟨y, y1, y2⟩ := a
    have e1 : k = x := Nat.eq_of_beq_eq_true q
    have e2 : x = y := Nat.eq_of_beq_eq_true y2
    exact h.1 y y1 (by rw [e1, e2]; exact Nat.beq_refl y)
  · rw [List.any_eq_false]
    intro e he q
    rw [Bool.and_eq_true, Bool.and_eq_true] at q
    obtain ⟨q1, q2, q3⟩ := q
    have e1 : e.1 = k := Nat.eq_of_beq_eq_true q1
    have a := c.2 e he
    rw [Bool.or_eq_true, List.any_eq_true, List.any_eq_true] at a
    rcases a with ⟨y, y1, y2⟩ | ⟨d, d1, d2⟩
    · have e2 : e.1 = y := Nat.eq_of_beq_eq_true y2
      have h1 := h.1
      rw [List.any_eq_false] at h1
      exact h1 y y1 (by rw [← e1, e2]; exact Nat.beq_refl y)
    · rw [Bool.and_eq_true, Bool.and_eq_true] at d2
      obtain ⟨r1, r2, r3⟩ := d2
      have h2 := h.2
      rw [List.any_eq_false] at h2
      refine h2 d d1 ?_
      rw [Bool.and_eq_true, Bool.and_eq_true]
      have a1 := Nat.le_of_ble_eq_true q2
      have a2 := Nat.le_of_ble_eq_true q3
      have a3 := Nat.le_of_ble_eq_true r2
      have a4 := Nat.le_of_ble_eq_true r3
      refine ⟨?_, Nat.ble_eq.mpr (by omega), Nat.ble_eq.mpr (by omega)⟩
      rw [← e1]
      exact r1
theorem zQ.mono {R R' S S' : List Nat} {A A' B B' : List (Nat × Nat × Nat)} {σ σ' : zSt} (h : zQ R A S B σ σ') (c : zsub R A R' A' = true) (d : zsub S B S' B' = true) : zQ R' A' S' B' σ σ' := ⟨fun k j q => h.1 k j (zcv_sub c q), fun k j q => h.2 k j (zcv_sub d q)⟩
theorem zp2_bll {α β : Type} {o : Option (zSt × Int64)} {p : Option β} {f : zSt → Int64 → Option α} {P : zSt × Int64 → Prop} {Q : α → β → Prop} (h : zpc o P) (k : ∀ σ v, P (σ, v) → zp2 (f σ v) p Q) : zp2 (zbl o f) p Q := by
  cases o with
  | none => exact zp2_nl
  | some a => exact k a.1 a.2 (h a rfl)
theorem zp2_bur {α β : Type} {o : Option α} {p : Option zSt} {f : zSt → Option β} {P : zSt → Prop} {Q : α → β → Prop} (h : zpc p P) (k : ∀ σ, P σ → zp2 o (f σ) Q) : zp2 o (zbu p f) Q := by
  cases p with
  | none => exact zp2_nr
  | some a => exact k a (h a rfl)
theorem zp2_bilp {α β : Type} {o : Option (zSt × Int32)} {p : Option β} {f : zSt → Int32 → Option α} {P : zSt × Int32 → β → Prop} {Q : α → β → Prop} (h : zp2 o p P) (k : ∀ s v b, P (s, v) b → zp2 (f s v) (some b) Q) : zp2 (zbi o f) p Q := by
  intro a b ea eb
  cases e : o with
  | none => rw [e] at ea; cases ea
  | some r =>
    rw [e] at ea
    exact k r.1 r.2 b (h r b e eb) a b ea rfl
/-! registers -/
def zrg (j : Nat) (v : Int32) : Prop := (j < 16 → zr 0 255 v) ∧ (16 ≤ j → j ≤ 20 → zr 0 65535 v) ∧ (21 ≤ j → j ≤ 22 → zr 0 255 v) ∧ (23 ≤ j → j ≤ 24 → zr 0 1 v) ∧ (j = 25 → zr 0 2 v) ∧ (26 ≤ j → j ≤ 28 → zr 0 1 v)
/-- all registers but F and WZ: those may differ in between -/
def zCq (σ μ : zSt) : Prop := (∀ j : Nat, j ≤ 26 → ¬ j = 1 → ¬ j = 20 → μ.1 3 j = σ.1 36 j) ∧ μ.1 3 28 = σ.1 36 27 ∧ μ.1 3 27 = σ.1 36 28 ∧ (∀ j : Nat, j ≤ 28 → zrg j (σ.1 36 j))
def zM2 (σ μ : zSt) : Prop := zMe σ μ ∧ zMr σ μ
def zJp (σ μ : zSt) : Prop := (σ.1 7 4 = 6 ∧ μ.1 0 31 = 0) ∨ (σ.1 7 4 = 16 ∧ μ.1 0 31 = 16) ∨ (σ.1 7 4 = 17 ∧ μ.1 0 31 = 17)
/-- what lies beside the processor and is left alone by it -/
def zIoK (I : zSt → zSt → Prop) : Prop := ∀ σ μ σ' μ', I σ μ → zQ [36, 7, 15, 17, 19] [] [] [] σ σ' → zQ [5, 6] [(3, 0, 32), (0, 31, 33)] [] [] μ μ' → I σ' μ'
def zTT (I : zSt → zSt → Prop) (σ μ : zSt) : Prop := zM2 σ μ ∧ zCq σ μ ∧ zJp σ μ ∧ I σ μ
def zall : List Nat → (Nat → Prop) → Prop
  | [], _ => True
  | a :: t, P => P a ∧ zall t P
theorem zall_of {P : Nat → Prop} : ∀ {A : List Nat}, zall A P → ∀ j ∈ A, P j
  | [], _, j, h => by cases h
  | a :: t, h, j, m => by
    rcases List.mem_cons.mp m with e | e
    · rw [e]; exact h.1
    · exact zall_of h.2 j e
theorem zAl0 {P : Nat → Prop} : zall [] P := trivial
theorem zAlc {P : Nat → Prop} {a : Nat} {t : List Nat} (p : P a) (q : zall t P) : zall (a :: t) P := ⟨p, q⟩
theorem zAl1 {P : Nat → Prop} {a : Nat} (p : P a) : zall [a] P := zAlc p zAl0
theorem zAl2 {P : Nat → Prop} {a b : Nat} (p : P a) (q : P b) : zall [a, b] P := zAlc p (zAl1 q)
theorem zAl3 {P : Nat → Prop} {a b c : Nat} (p : P a) (q : P b) (r : P c) : zall [a, b, c] P := zAlc p (zAl2 q r)
theorem zM2.keep {σ μ σ' μ' : zSt} (h : zM2 σ μ) (a : zQ [36, 7] [] [] [] σ σ') (b : zQ [] [(3, 0, 28), (0, 31, 33)] [] [] μ μ') : zM2 σ' μ' := by
  obtain ⟨⟨h1, h2, h3, h4, h5, h6⟩, ⟨r1, r2, r3, r4, r5, r6⟩⟩ := h
  have c : ∀ k j, ¬ k = 36 → ¬ k = 7 → σ'.1 k j = σ.1 k j := fun k j n1 n2 => a.1 k j (by
    unfold zcv
    rw [Bool.or_eq_false_iff]
    refine ⟨?_, rfl⟩
    rw [List.any_eq_false]
    intro x hx q
    have e : k = x := Nat.eq_of_beq_eq_true q
    rcases List.mem_cons.mp hx with r | r
    · exact n1 (e.trans r)
    · rcases List.mem_cons.mp r with r | r
      · exact n2 (e.trans r)
      · cases r)
  have m : ∀ k j, (¬ k = 3 ∧ ¬ k = 0) ∨ (k = 3 ∧ 28 < j) ∨ (k = 0 ∧ j < 31) → μ'.1 k j = μ.1 k j := fun k j n => b.1 k j (by
    unfold zcv
    rw [Bool.or_eq_false_iff]
    refine ⟨rfl, ?_⟩
    rw [List.any_eq_false]
    intro x hx q
    rw [Bool.and_eq_true, Bool.and_eq_true] at q
    obtain ⟨q1, q2, q3⟩ := q
    have e : x.1 = k := Nat.eq_of_beq_eq_true q1
    have a2 := Nat.le_of_ble_eq_true q2
    have a3 := Nat.le_of_ble_eq_true q3
    rcases List.mem_cons.mp hx with r | r
    · subst r
      have e : 3 = k := e
      have a3 : j ≤ 28 := a3
      omega
    · rcases List.mem_cons.mp r with r | r
      · subst r
        have e : 0 = k := e
        have a2 : 31 ≤ j := a2
        omega
      · cases r)
  have c1 : σ'.1 1 = σ.1 1 := funext fun j => c 1 j (by decide) (by decide)
  have m0 : ∀ j, j < 31 → μ'.1 0 j = μ.1 0 j := fun j hj => m 0 j (Or.inr (Or.inr ⟨rfl, hj⟩))
  refine ⟨⟨fun j hj => ?_, fun j hj => ?_, fun j hj => ?_, ?_, ?_, ?_⟩, ⟨?_, ?_, ?_, ?_, ?_, fun j j1 j2 => ?_⟩⟩
  · rw [c 15 j (by decide) (by decide), m 5 j (Or.inl (by decide))]; exact h1 j hj
  · rw [c 17 j (by decide) (by decide), m 6 j (Or.inl (by decide))]; exact h2 j hj
  · rw [c 19 j (by decide) (by decide), m 3 (29 + j) (Or.inr (Or.inl ⟨rfl, by omega⟩))]; exact h3 j hj
  · rw [c 19 3 (by decide) (by decide), m 3 32 (Or.inr (Or.inl ⟨rfl, by decide⟩))]; exact h4
  · refine h5.keep (fun j _ => by rw [c1]) (funext fun j => c _ j ?_ ?_) (fun j hj => m0 j ?_) (funext fun j => m 2 j (Or.inl (by decide)))
    · rcases z_tp13 (σ.1 1 1) with e | e <;> rw [e] <;> decide
    · rcases z_tp13 (σ.1 1 1) with e | e <;> rw [e] <;> decide
    · revert hj
      simp only [List.mem_cons, List.not_mem_nil, or_false]
      omega
  · unfold zFil
    rw [m0 5 (by decide), m0 6 (by decide), show μ'.1 2 = μ.1 2 from funext fun j => m 2 j (Or.inl (by decide))]
    exact h6
  · rw [c1]; exact r1
  · rw [c1]; exact r2
  · rw [m0 6 (by decide)]; exact r3
  · rw [m0 7 (by decide)]; exact r4
  · rw [m0 7 (by decide), m0 6 (by decide)]; exact r5
  · rw [m 3 j (Or.inr (Or.inl ⟨rfl, by omega⟩))]; exact r6 j j1 j2
section ZT1
variable {I : zSt → zSt → Prop} {σ μ σ1 μ1 : zSt}
theorem zTT.eq (h : zTT I σ μ) {j : Nat} (hj : j ≤ 26) (hn : ¬ j = 1 := by decide) (hw : ¬ j = 20 := by decide) : μ.1 3 j = σ.1 36 j := h.2.1.1 j hj hn hw
def zWzz (σ μ : zSt) : Prop := μ.1 3 20 = σ.1 36 20
theorem zWzz.of {σ2 μ2 : zSt} (h : zWzz σ μ) (a : σ2.1 36 20 = σ.1 36 20) (b : μ2.1 3 20 = μ.1 3 20) : zWzz σ2 μ2 := by
  unfold zWzz
  rw [a, b]
  exact h
def zF (σ μ : zSt) : Prop := μ.1 3 1 = σ.1 36 1
theorem zF.of {σ2 μ2 : zSt} (h : zF σ μ) (a : σ2.1 36 1 = σ.1 36 1) (b : μ2.1 3 1 = μ.1 3 1) : zF σ2 μ2 := by
  unfold zF
  rw [a, b]
  exact h
theorem zTT.g (h : zTT I σ μ) {j : Nat} (hj : j ≤ 28) : zrg j (σ.1 36 j) := h.2.1.2.2.2 j hj
theorem zTT.b (h : zTT I σ μ) {j : Nat} (hj : j < 16) : zr 0 255 (σ.1 36 j) := (h.g (by omega)).1 hj
theorem zTT.w (h : zTT I σ μ) {j : Nat} (h1 : 16 ≤ j) (h2 : j ≤ 20) : zr 0 65535 (σ.1 36 j) := (h.g (by omega)).2.1 h1 h2
theorem zrg_b {j : Nat} {v : Int32} (hj : j < 16 ∨ j = 21 ∨ j = 22) (h : zr 0 255 v) : zrg j v := ⟨fun _ => h, fun _ _ => zr_w h (by decide), fun _ _ => h, fun _ _ => by omega, fun _ => by omega, fun _ _ => by omega⟩
theorem zrg_w {j : Nat} {v : Int32} (h1 : 16 ≤ j) (h2 : j ≤ 20) (h : zr 0 65535 v) : zrg j v := ⟨fun _ => by omega, fun _ _ => h, fun _ _ => by omega, fun _ _ => by omega, fun _ => by omega, fun _ _ => by omega⟩
theorem zrg_1 {j : Nat} {v : Int32} (h1 : 23 ≤ j) (h2 : j ≤ 28) (h : zr 0 1 v) : zrg j v := ⟨fun _ => by omega, fun _ _ => by omega, fun _ _ => by omega, fun _ _ => h, fun _ => zr_w h (by decide), fun _ _ => h⟩
/-- the end of a stretch: the registers in A are the same, all others are as they were -/
theorem zTT.fin (hI : zIoK I) (h : zTT I σ μ) (A : List Nat) (hm : zM2 σ1 μ1) (qc : zQ [7, 15, 17, 19] (A.map (fun j => (36, j, j))) [] [] σ σ1) (qm : zQ [5, 6] ((0, 31, 33) :: (3, 29, 32) :: A.map (fun j => (3, j, j))) [] [] μ μ1) (hA : A.all (fun j => Nat.ble j 26) = true) (e : zall A (fun j => μ1.1 3 j = σ1.1 36 j ∧ zrg j (σ1.1 36 j))) (hj : zJp σ1 μ1) : zTT I σ1 μ1 := by
  have ea := zall_of e
  rw [List.all_eq_true] at hA
  have nc : ∀ j, ¬ j ∈ A → σ1.1 36 j = σ.1 36 j := fun j hj => qc.1 36 j (by
    unfold zcv
    rw [Bool.or_eq_false_iff]
    refine ⟨rfl, ?_⟩
    rw [List.any_eq_false]
    intro x hx q
    obtain ⟨i, i1, i2⟩ := List.mem_map.mp hx
    subst i2
    rw [Bool.and_eq_true, Bool.and_eq_true] at q
    have a2 := Nat.le_of_ble_eq_true q.2.1
    have a3 := Nat.le_of_ble_eq_true q.2.2
    have e : i = j := by
      have a2 : i ≤ j := a2
      have a3 : j ≤ i := a3
      omega
    exact hj (e ▸ i1))
  have nm : ∀ j, j ≤ 28 → ¬ j ∈ A → μ1.1 3 j = μ.1 3 j := fun j h28 hj => qm.1 3 j (by
    unfold zcv
    rw [Bool.or_eq_false_iff]
    refine ⟨rfl, ?_⟩
    rw [List.any_eq_false]
    intro x hx q
    rw [Bool.and_eq_true, Bool.and_eq_true] at q
    have a1 := Nat.eq_of_beq_eq_true q.1
    have a2 := Nat.le_of_ble_eq_true q.2.1
    have a3 := Nat.le_of_ble_eq_true q.2.2
    rcases List.mem_cons.mp hx with r | r
    · subst r; exact absurd a1 (by decide)
    · rcases List.mem_cons.mp r with r | r
      · subst r
        have a2 : 29 ≤ j := a2
        omega
      · obtain ⟨i, i1, i2⟩ := List.mem_map.mp r
        subst i2
        have a2 : i ≤ j := a2
        have a3 : j ≤ i := a3
        have e : i = j := by omega
        exact hj (e ▸ i1))
  have n27 : ∀ j, 26 < j → ¬ j ∈ A := fun j hj m => by
    have := Nat.le_of_ble_eq_true (hA j m)
    omega
  refine ⟨hm, ⟨fun j hj hn hw => ?_, ?_, ?_, fun j hj => ?_⟩, hj, hI σ μ σ1 μ1 h.2.2.2 ?_ ?_⟩
  · by_cases q : j ∈ A
    · exact (ea j q).1
    · rw [nm j (by omega) q, nc j q]; exact h.2.1.1 j hj hn hw
  · rw [nm 28 (by decide) (n27 28 (by decide)), nc 27 (n27 27 (by decide))]; exact h.2.1.2.1
  · rw [nm 27 (by decide) (n27 27 (by decide)), nc 28 (n27 28 (by decide))]; exact h.2.1.2.2.1
  · by_cases q : j ∈ A
    · exact (ea j q).2
    · rw [nc j q]; exact h.2.1.2.2.2 j hj
  · refine ⟨fun k j q => qc.1 k j ?_, qc.2⟩
    unfold zcv at q ⊢
    rw [Bool.or_eq_false_iff] at q ⊢
    have q1 := q.1
    rw [List.any_eq_false] at q1
    refine ⟨?_, ?_⟩
    · rw [List.any_eq_false]
      intro x hx
      exact q1 x (List.mem_cons_of_mem _ hx)
    · rw [List.any_eq_false]
      intro x hx r
      obtain ⟨i, i1, i2⟩ := List.mem_map.mp hx
      subst i2
      rw [Bool.and_eq_true] at r
      exact q1 36 (List.mem_cons_self) (by rw [← Nat.eq_of_beq_eq_true r.1]; exact Nat.beq_refl 36)
  · refine ⟨fun k j q => qm.1 k j ?_, qm.2⟩
    unfold zcv at q ⊢
    rw [Bool.or_eq_false_iff] at q ⊢
    refine ⟨q.1, ?_⟩
    have q2 := q.2
    rw [List.any_eq_false] at q2
    rw [List.any_eq_false]
    intro x hx r
    rw [Bool.and_eq_true, Bool.and_eq_true] at r
    obtain ⟨r1, r2, r3⟩ := r
    rcases List.mem_cons.mp hx with s | s
    · subst s
      exact q2 (0, 31, 33) (List.mem_cons_of_mem _ List.mem_cons_self) (by rw [r1, r2, r3]; rfl)
    · have a2 := Nat.le_of_ble_eq_true r2
      have a3 := Nat.le_of_ble_eq_true r3
      have k3 : Nat.beq 3 k = true ∧ j ≤ 32 := by
        rcases List.mem_cons.mp s with s | s
        · subst s; exact ⟨r1, a3⟩
        · obtain ⟨i, i1, i2⟩ := List.mem_map.mp s
          subst i2
          have b := Nat.le_of_ble_eq_true (hA i i1)
          have a3 : j ≤ i := a3
          exact ⟨r1, by omega⟩
      exact q2 (3, 0, 32) List.mem_cons_self (by rw [Bool.and_eq_true, Bool.and_eq_true]; exact ⟨k3.1, rfl, Nat.ble_eq.mpr k3.2⟩)
/-- the same where the memory was not written -/
theorem zTT.upd (hI : zIoK I) (h : zTT I σ μ) (A : List Nat) (qc : zQ [] (A.map (fun j => (36, j, j))) [] [] σ σ1) (qm : zQ [] (A.map (fun j => (3, j, j))) [] [] μ μ1) (hA : A.all (fun j => Nat.ble j 26) = true) (e : zall A (fun j => μ1.1 3 j = σ1.1 36 j ∧ zrg j (σ1.1 36 j))) : zTT I σ1 μ1 := by
  have hA' := hA
  rw [List.all_eq_true] at hA'
  have c1 : zsub [] (A.map (fun j => (36, j, j))) [36, 7] [] = true := by
    unfold zsub
    rw [Bool.and_eq_true]
    refine ⟨rfl, ?_⟩
    rw [List.all_eq_true]
    intro x hx
    obtain ⟨i, i1, i2⟩ := List.mem_map.mp hx
    subst i2
    rfl
  have c2 : zsub [] (A.map (fun j => (3, j, j))) [] [(3, 0, 28), (0, 31, 33)] = true := by
    unfold zsub
    rw [Bool.and_eq_true]
    refine ⟨rfl, ?_⟩
    rw [List.all_eq_true]
    intro x hx
    obtain ⟨i, i1, i2⟩ := List.mem_map.mp hx
    subst i2
    have b := Nat.le_of_ble_eq_true (hA' i i1)
    rw [Bool.or_eq_true]
    right
    rw [List.any_eq_true]
    refine ⟨(3, 0, 28), List.mem_cons_self, ?_⟩
    rw [Bool.and_eq_true, Bool.and_eq_true]
    exact ⟨rfl, rfl, Nat.ble_eq.mpr (by show i ≤ 28; omega)⟩
  have c3 : ∀ B : List (Nat × Nat × Nat), zsub [] B [7, 15, 17, 19] B = true := fun B => by
    unfold zsub
    rw [Bool.and_eq_true]
    refine ⟨rfl, ?_⟩
    rw [List.all_eq_true]
    intro x hx
    rw [Bool.or_eq_true]
    right
    rw [List.any_eq_true]
    exact ⟨x, hx, by rw [Bool.and_eq_true, Bool.and_eq_true]; exact ⟨Nat.beq_refl _, Nat.ble_eq.mpr (Nat.le_refl _), Nat.ble_eq.mpr (Nat.le_refl _)⟩⟩
  have c4 : ∀ B : List (Nat × Nat × Nat), zsub [] B [5, 6] ((0, 31, 33) :: (3, 29, 32) :: B) = true := fun B => by
    unfold zsub
    rw [Bool.and_eq_true]
    refine ⟨rfl, ?_⟩
    rw [List.all_eq_true]
    intro x hx
    rw [Bool.or_eq_true]
    right
    rw [List.any_eq_true]
    exact ⟨x, List.mem_cons_of_mem _ (List.mem_cons_of_mem _ hx), by rw [Bool.and_eq_true, Bool.and_eq_true]; exact ⟨Nat.beq_refl _, Nat.ble_eq.mpr (Nat.le_refl _), Nat.ble_eq.mpr (Nat.le_refl _)⟩⟩
  have e7 : ∀ i, σ1.1 7 i = σ.1 7 i := fun i => qc.1 7 i (by
    unfold zcv
    rw [Bool.or_eq_false_iff]
    refine ⟨rfl, ?_⟩
    rw [List.any_eq_false]
    intro x hx q
    obtain ⟨i, i1, i2⟩ := List.mem_map.mp hx
    subst i2
    rw [Bool.and_eq_true] at q
    exact absurd (show (36 : Nat) = 7 from Nat.eq_of_beq_eq_true q.1) (by decide))
  have e0 : ∀ i, μ1.1 0 i = μ.1 0 i := fun i => qm.1 0 i (by
    unfold zcv
    rw [Bool.or_eq_false_iff]
    refine ⟨rfl, ?_⟩
    rw [List.any_eq_false]
    intro x hx q
    obtain ⟨i, i1, i2⟩ := List.mem_map.mp hx
    subst i2
    rw [Bool.and_eq_true] at q
    exact absurd (show (3 : Nat) = 0 from Nat.eq_of_beq_eq_true q.1) (by decide))
  refine h.fin hI A (h.1.keep (qc.mono c1 rfl) (qm.mono c2 rfl)) (qc.mono (c3 _) rfl) (qm.mono (c4 _) rfl) hA e ?_
  have hj := h.2.2.1
  unfold zJp at hj ⊢
  rw [e7, e0]
  exact hj
/-- F or WZ on one side alone -/
theorem zTT.onC (hI : zIoK I) (h : zTT I σ μ) {i : Nat} {v : Int32} (hi : i = 1 ∨ i = 20) (hv : zrg i v) : zTT I (zsi σ 36 i v) μ := by
  refine ⟨h.1.keep (zQ.wi zQ.rf rfl) zQ.rf, ⟨fun j hj hn hw => ?_, ?_, ?_, fun j hj => ?_⟩, h.2.2.1.imp (fun x => x) (fun x => x), hI _ _ _ _ h.2.2.2 (zQ.wi zQ.rf rfl) zQ.rf⟩
  · rw [zsi_nj (by omega)]; exact h.2.1.1 j hj hn hw
  · rw [zsi_nj (by omega)]; exact h.2.1.2.1
  · rw [zsi_nj (by omega)]; exact h.2.1.2.2.1
  · by_cases q : j = i
    · rw [q, zsi_ej]; exact hv
    · rw [zsi_nj q]; exact h.2.1.2.2.2 j hj
theorem zTT.onM (hI : zIoK I) (h : zTT I σ μ) {i : Nat} {w : Int32} (hi : i = 1 ∨ i = 20) : zTT I σ (zsi μ 3 i w) := by
  have qm : zQ [] [(3, 0, 28), (0, 31, 33)] [] [] μ (zsi μ 3 i w) := by
    rcases hi with e | e <;> subst e <;> exact zQ.wi zQ.rf rfl
  refine ⟨h.1.keep zQ.rf qm, ⟨fun j hj hn hw => ?_, ?_, ?_, h.2.1.2.2.2⟩, h.2.2.1.imp (fun x => x) (fun x => x), hI _ _ _ _ h.2.2.2 zQ.rf (qm.mono rfl rfl)⟩
  · rw [zsi_nj (by omega)]; exact h.2.1.1 j hj hn hw
  · rw [zsi_nj (by omega)]; exact h.2.1.2.1
  · rw [zsi_nj (by omega)]; exact h.2.1.2.2.1
end ZT1
end ZJN6
section ZJN7
/-! HELPERS OF BOTH PROCESSORS -/
theorem zFw.q {σ σ' : zSt} (h : zFw σ σ') : zQ [15, 17, 19] [] [] [] σ σ' := by
  refine ⟨fun k j c => ?_, fun k j _ => by rw [h.2]⟩
  have n : ∀ i, i ∈ [15, 17, 19] → ¬ k = i := fun i hi e => by
    unfold zcv at c
    rw [Bool.or_eq_false_iff, List.any_eq_false] at c
    exact c.1 i hi (by rw [e]; exact Nat.beq_refl i)
  rw [h.1 k (n 15 (by decide)) (n 17 (by decide)) (n 19 (by decide))]
theorem zFv.q {μ μ' : zSt} (h : zFv μ μ') : zQ [5, 6] [(3, 29, 32)] [] [] μ μ' := by
  refine ⟨fun k j c => ?_, fun k j _ => by rw [h.2.2]⟩
  unfold zcv at c
  rw [Bool.or_eq_false_iff, List.any_eq_false, List.any_eq_false] at c
  have n : ∀ i, i ∈ [5, 6] → ¬ k = i := fun i hi e => c.1 i hi (by rw [e]; exact Nat.beq_refl i)
  by_cases e : k = 3
  · subst e
    refine h.2.1 j ?_
    by_cases q : j < 29
    · exact Or.inl q
    · by_cases r : 32 < j
      · exact Or.inr r
      · exact absurd (show (Nat.beq 3 3 && (Nat.ble 29 j && Nat.ble j 32)) = true by rw [Bool.and_eq_true, Bool.and_eq_true]; exact ⟨rfl, Nat.ble_eq.mpr (by omega), Nat.ble_eq.mpr (by omega)⟩) (c.2 (3, 29, 32) List.mem_cons_self)
  · rw [h.1 k e (n 5 (by decide)) (n 6 (by decide))]
section ZT3
variable {I : zSt → zSt → Prop} {σ μ : zSt} {α β : Type} {Q : α → β → Prop}
theorem zM2.rd (h : zM2 σ μ) {x y : Int32} (e : y &&& 65535 = x &&& 65535) : zp2 (fX2_read σ x) (fX12_read μ y) (fun r r' => r.1 = σ ∧ r'.1 = μ ∧ r'.2 = r.2 ∧ zr 0 255 r.2) := by
  rw [← z_rdc (a := x), ← z_rdm (a := y), e]
  exact zp2_mono (zp2_andr (z2_read h.1 h.2) p_readr) (fun a b q => ⟨q.1.1, q.1.2.1, q.1.2.2.symm, by rw [q.1.2.2]; exact q.2⟩)
/-- both read, and go on -/
theorem zp2_rd (h : zM2 σ μ) {x y : Int32} (e : y &&& 65535 = x &&& 65535) {f : zSt → Int32 → Option α} {g : zSt → Int32 → Option β} (k : ∀ v, zr 0 255 v → zp2 (f σ v) (g μ v) Q) : zp2 (zbi (fX2_read σ x) f) (zbi (fX12_read μ y) g) Q := by
  refine zp2_bii (h.rd e) (fun s v t w q => ?_)
  obtain ⟨q1, q2, q3, q4⟩ := q
  have q1 : s = σ := q1
  have q2 : t = μ := q2
  have q3 : w = v := q3
  subst q1
  subst q2
  subst q3
  exact k w q4
theorem zM2.wr (h : zM2 σ μ) {x y v w : Int32} (e : y &&& 65535 = x &&& 65535) (f : w &&& 255 = v) (hv : zr 0 255 v) : zp2 (fX2_write σ x v) (fX12_write μ y w) (fun r r' => zM2 r r' ∧ zQ [15, 17, 19] [] [] [] σ r ∧ zQ [5, 6] [(3, 29, 32)] [] [] μ r') := by
  have e1 : fX2_write σ x v = fX2_write σ (x &&& 65535) v := by unfold fX2_write; rw [z_mm]
  rw [e1, ← z_wrm (a := y), ← z_wrb (v := w), e, f]
  refine zp2_mono (zp2_andr (z2_write h.1 h.2 hv) (p_writer h.2.2.2.2.2.2)) (fun r r' q => ?_)
  obtain ⟨⟨q1, q2, q3⟩, q4⟩ := q
  exact ⟨⟨q1, h.2.of q2 q3 q4⟩, q2.q, q3.q⟩
/-- both write, and go on -/
theorem zp2_wr (h : zM2 σ μ) {x y v w : Int32} (e : y &&& 65535 = x &&& 65535) (f : w &&& 255 = v) (hv : zr 0 255 v) {F : zSt → Option α} {G : zSt → Option β} (k : ∀ s t, zM2 s t → zQ [15, 17, 19] [] [] [] σ s → zQ [5, 6] [(3, 29, 32)] [] [] μ t → zp2 (F s) (G t) Q) : zp2 (zbu (fX2_write σ x v) F) (zbu (fX12_write μ y w) G) Q := zp2_buu (h.wr e f hv) (fun s t q => k s t q.1 q.2.1 q.2.2)
theorem z_r8 (x : Int32) : zr 0 255 (x &&& 255) := zr_andr (lo := 0) (hi := 255) (zr_c (lo := 255) (hi := 255) (by decide)) (by decide)
theorem z_r16 (x : Int32) : zr 0 65535 (x &&& 65535) := zr_andr (lo := 0) (hi := 65535) (zr_c (lo := 65535) (hi := 65535) (by decide)) (by decide)
theorem z_rw {a b : Int32} (ha : zr 0 255 a) (hb : zr 0 255 b) : zr 0 65535 (a ||| (b <<< ((8 : Int32) &&& 31))) := zr_or (lo := 0) (hi := 65535) 16 ha (zr_shl (lo := 0) (hi := 65280) 8 (by decide) hb (by decide)) (by decide)
theorem z_rw' {a b : Int32} (ha : zr 0 255 a) (hb : zr 0 255 b) : zr 0 65535 ((a <<< ((8 : Int32) &&& 31)) ||| b) := zr_or (lo := 0) (hi := 65535) 16 (zr_shl (lo := 0) (hi := 65280) 8 (by decide) ha (by decide)) hb (by decide)
theorem z_m255 {v : Int32} (h : zr 0 255 v) : v &&& 255 = v := Int32.toInt_inj.mp (by rw [z_mask (k := 8) h.1 rfl (by decide)]; have := h.1; have := h.2; show v.toInt % 256 = _; omega)
theorem z_65 {v : Int32} (h : zr 0 65535 v) : v &&& 65535 = v := Int32.toInt_inj.mp (by rw [z_mask (k := 16) h.1 rfl (by decide)]; have := h.1; have := h.2; show v.toInt % 65536 = _; omega)
theorem z_hi {w : Int32} (h : zr 0 65535 w) : zr 0 255 (w >>> ((8 : Int32) &&& 31)) := by
  have e := z_quo (k := 8) (s := (8 : Int32) &&& 31) h.1 rfl
  have h1 := h.1
  have h2 := h.2
  exact ⟨by rw [e]; show 0 ≤ w.toInt / 256; omega, by rw [e]; show w.toInt / 256 ≤ 255; omega⟩
theorem z_hi8 {w : Int32} (h : zr 0 65535 w) : (w >>> ((8 : Int32) &&& 31)) &&& 255 = w >>> ((8 : Int32) &&& 31) := z_m255 (z_hi h)
/-- fetching -/
theorem t_next (hI : zIoK I) (h : zTT I σ μ) : zp2 (fX5_fetch σ ) (fX12_next μ ) (fun r r' => zTT I r.1 r'.1 ∧ r'.2 = r.2 ∧ zr 0 255 r.2 ∧ zQ [] [(36, 19, 19)] [] [] σ r.1 ∧ zQ [] [(3, 19, 19)] [] [] μ r'.1) := by
  unfold fX5_fetch fX12_next
  have e : zgi μ 3 (19 : Int32).toNatClampNeg = zgi σ 36 (19 : Int32).toNatClampNeg := h.eq (j := 19) (by decide)
  refine zp2_ckl (zp2_ckr (zp2_rd h.1 (by rw [e]) (fun v hv => ?_)))
  refine zp2_ckl (zp2_ckl (zp2_bvl (fun s es => zp2_ckr (zp2_ckr (zp2_bvr (fun t et => zp2_some ⟨?_, rfl, hv, ?_, ?_⟩))))))
  · subst es
    subst et
    refine h.upd hI [19] (zQ.wi zQ.rf rfl) (zQ.wi zQ.rf rfl) rfl (zAl1 ⟨?_, zrg_w (by decide) (by decide) (z_r16 _)⟩)
    show (μ.1 3 19 + 1) &&& 65535 = (σ.1 36 19 + 1) &&& 65535
    rw [h.eq (by decide)]
  · subst es; exact zQ.wi zQ.rf rfl
  · subst et; exact zQ.wi zQ.rf rfl
theorem t_op (hI : zIoK I) (h : zTT I σ μ) : zp2 (fX5_fetchOp σ ) (fX12_fetch μ ) (fun r r' => zTT I r.1 r'.1 ∧ r'.2 = r.2 ∧ zr 0 255 r.2 ∧ zQ [] [(36, 19, 19), (36, 22, 22)] [] [] σ r.1 ∧ zQ [] [(3, 19, 19), (3, 22, 22)] [] [] μ r'.1) := by
  unfold fX5_fetchOp fX12_fetch fX5_growR fX5_fetch fX12_next fX12_grows
  have e : μ.1 3 19 = σ.1 36 19 := h.eq (j := 19) (by decide)
  refine zp2_bul (P := fun r => r = zsi σ 36 22 (((zgi σ 36 (22 : Int32).toNatClampNeg) &&& 128) ||| (((zgi σ 36 (22 : Int32).toNatClampNeg) + 1) &&& 127))) (zpc_ck (zpc_ck (zpc_ck (zpc_bv (fun s es => zpc_some es))))) (fun s es => ?_)
  have hm : zM2 s μ := h.1.keep (by subst es; exact zQ.wi zQ.rf rfl) zQ.rf
  have e19 : s.1 36 19 = σ.1 36 19 := by subst es; rfl
  refine zp2_bilp (P := fun r r' => r'.2 = r.2 ∧ zr 0 255 r.2 ∧ r.1 = zsi s 36 19 ((s.1 36 19 + 1) &&& 65535) ∧ r'.1 = zsi (zsi μ 3 19 ((μ.1 3 19 + 1) &&& 65535)) 3 22 ((μ.1 3 22 &&& 128) ||| ((μ.1 3 22 + 1) &&& 127))) ?_ (fun s1 v r' q => zp2_some ?_)
  · -- the reference's fetch, as one
    refine zp2_ckl ?_
    have d : zp2 (fX2_read s (zgi s 36 (19 : Int32).toNatClampNeg)) (fX12_read μ (zgi μ 3 (19 : Int32).toNatClampNeg)) _ := hm.rd (by rw [show zgi s 36 (19 : Int32).toNatClampNeg = σ.1 36 19 from e19, show zgi μ 3 (19 : Int32).toNatClampNeg = σ.1 36 19 from e])
    intro a b ea eb
    cases qa : fX2_read s (zgi s 36 (19 : Int32).toNatClampNeg) with
    | none => rw [qa] at ea; cases ea
    | some x =>
      cases qb : fX12_read μ (zgi μ 3 (19 : Int32).toNatClampNeg) with
      | none => rw [qb] at eb; cases eb
      | some y =>
        obtain ⟨x1, x2⟩ := x
        obtain ⟨y1, y2⟩ := y
        obtain ⟨q1, q2, q3, q4⟩ := d _ _ qa qb
        have q1 : x1 = s := q1
        have q2 : y1 = μ := q2
        have q3 : y2 = x2 := q3
        have q4 : zr 0 255 x2 := q4
        subst q1
        subst q2
        subst q3
        rw [qa] at ea
        rw [qb] at eb
        have ea : some (zsi x1 36 19 ((x1.1 36 19 + 1) &&& 65535), y2) = some a := ea
        have eb : some (zsi (zsi y1 3 19 ((y1.1 3 19 + 1) &&& 65535)) 3 22 ((y1.1 3 22 &&& 128) ||| ((y1.1 3 22 + 1) &&& 127)), y2) = some b := eb
        cases ea
        cases eb
        exact ⟨rfl, q4, rfl, rfl⟩
  · obtain ⟨q1, q2, q3, q4⟩ := q
    have q3 : s1 = zsi s 36 19 ((s.1 36 19 + 1) &&& 65535) := q3
    refine ⟨?_, q1, q2, ?_, ?_⟩
    · show zTT I s1 r'.1
      rw [q3, q4, es]
      refine h.upd hI [19, 22] (zQ.wi (zQ.wi zQ.rf rfl) rfl) (zQ.wi (zQ.wi zQ.rf rfl) rfl) rfl (zAl2 ⟨?_, zrg_w (by decide) (by decide) (z_r16 _)⟩ ⟨?_, zrg_b (Or.inr (Or.inr rfl)) (zr_or (lo := 0) (hi := 255) 8 (zr_andr (lo := 0) (hi := 128) (zr_c (lo := 128) (hi := 128) (by decide)) (by decide)) (zr_andr (lo := 0) (hi := 127) (zr_c (lo := 127) (hi := 127) (by decide)) (by decide)) (by decide))⟩)
      · show (μ.1 3 19 + 1) &&& 65535 = (σ.1 36 19 + 1) &&& 65535
        rw [e]
      · show (μ.1 3 22 &&& 128) ||| ((μ.1 3 22 + 1) &&& 127) = (σ.1 36 22 &&& 128) ||| ((σ.1 36 22 + 1) &&& 127)
        rw [h.eq (by decide)]
    · show zQ _ _ _ _ σ s1
      rw [q3, es]
      exact zQ.wi (zQ.wi zQ.rf rfl) rfl
    · rw [q4]
      exact zQ.wi (zQ.wi zQ.rf rfl) rfl
theorem t_word (hI : zIoK I) (h : zTT I σ μ) : zp2 (fX5_fetchWord σ ) (fX12_nextWord μ ) (fun r r' => zTT I r.1 r'.1 ∧ r'.2 = r.2 ∧ zr 0 65535 r.2 ∧ zQ [] [(36, 19, 19)] [] [] σ r.1 ∧ zQ [] [(3, 19, 19)] [] [] μ r'.1) := by
  unfold fX5_fetchWord fX12_nextWord fX12_next
  have e : μ.1 3 19 = σ.1 36 19 := h.eq (j := 19) (by decide)
  intro a b ea eb
  have d1 := h.1.rd (x := zgi σ 36 (19 : Int32).toNatClampNeg) (y := zgi μ 3 (19 : Int32).toNatClampNeg) (by rw [show zgi μ 3 (19 : Int32).toNatClampNeg = zgi σ 36 (19 : Int32).toNatClampNeg from e])
  cases qa : fX2_read σ (zgi σ 36 (19 : Int32).toNatClampNeg) with
  | none => rw [qa] at ea; cases ea
  | some x =>
    cases qb : fX12_read μ (zgi μ 3 (19 : Int32).toNatClampNeg) with
    | none => rw [qb] at eb; cases eb
    | some y =>
      obtain ⟨x1, x2⟩ := x
      obtain ⟨y1, y2⟩ := y
      obtain ⟨q1, q2, q3, q4⟩ := d1 _ _ qa qb
      have q1 : x1 = σ := q1
      have q2 : y1 = μ := q2
      have q3 : y2 = x2 := q3
      have q4 : zr 0 255 x2 := q4
      subst q1
      subst q2
      subst q3
      rw [qa] at ea
      rw [qb] at eb
      have hm : zM2 x1 (zsi y1 3 19 ((y1.1 3 19 + 1) &&& 65535)) := h.1.keep zQ.rf (zQ.wi zQ.rf rfl)
      have d2 := hm.rd (x := zgi x1 36 (19 : Int32).toNatClampNeg + 1) (y := (y1.1 3 19 + 1) &&& 65535) (by rw [z_mm, e]; rfl)
      cases ra : fX2_read x1 (zgi x1 36 (19 : Int32).toNatClampNeg + 1) with
      | none => 
        have ea : zbi (fX2_read x1 (zgi x1 36 (19 : Int32).toNatClampNeg + 1)) (fun σ3 v4 => some (zsi σ3 36 19 (((zgi σ3 36 19) + 2) &&& 65535), y2 ||| (v4 <<< ((8 : Int32) &&& 31)))) = some a := ea
        rw [ra] at ea; cases ea
      | some u =>
        have ea : zbi (fX2_read x1 (zgi x1 36 (19 : Int32).toNatClampNeg + 1)) (fun σ3 v4 => some (zsi σ3 36 19 (((zgi σ3 36 19) + 2) &&& 65535), y2 ||| (v4 <<< ((8 : Int32) &&& 31)))) = some a := ea
        have eb : zbi (zbi (fX12_read (zsi y1 3 19 ((y1.1 3 19 + 1) &&& 65535)) ((y1.1 3 19 + 1) &&& 65535)) (fun σ3 v4 => some (zsi σ3 3 19 (((zgi σ3 3 19) + 1) &&& 65535), v4))) (fun σ3 v4 => some (σ3, y2 ||| (v4 <<< ((8 : Int32) &&& 31)))) = some b := eb
        cases rb : fX12_read (zsi y1 3 19 ((y1.1 3 19 + 1) &&& 65535)) ((y1.1 3 19 + 1) &&& 65535) with
        | none => rw [rb] at eb; cases eb
        | some w =>
          obtain ⟨u1, u2⟩ := u
          obtain ⟨w1, w2⟩ := w
          obtain ⟨p1, p2, p3, p4⟩ := d2 _ _ ra rb
          have p1 : u1 = x1 := p1
          have p2 : w1 = zsi y1 3 19 ((y1.1 3 19 + 1) &&& 65535) := p2
          have p3 : w2 = u2 := p3
          have p4 : zr 0 255 u2 := p4
          rw [ra] at ea
          rw [rb] at eb
          have ea : some (zsi u1 36 19 ((u1.1 36 19 + 2) &&& 65535), y2 ||| (u2 <<< ((8 : Int32) &&& 31))) = some a := ea
          have eb : some (zsi w1 3 19 ((w1.1 3 19 + 1) &&& 65535), y2 ||| (w2 <<< ((8 : Int32) &&& 31))) = some b := eb
          subst p1
          subst p2
          subst p3
          cases ea
          cases eb
          refine ⟨?_, rfl, z_rw q4 p4, zQ.wi zQ.rf rfl, zQ.wi (zQ.wi zQ.rf rfl) rfl⟩
          refine h.upd hI [19] (zQ.wi zQ.rf rfl) (zQ.wi (zQ.wi zQ.rf rfl) rfl) rfl (zAl1 ⟨?_, zrg_w (by decide) (by decide) (z_r16 _)⟩)
          show (((y1.1 3 19 + 1) &&& 65535) + 1) &&& 65535 = (u1.1 36 19 + 2) &&& 65535
          rw [z_p1, e]
/-- words of the memory -/
theorem t_rword (h : zM2 σ μ) {x y : Int32} (e : y = x) : zp2 (fX5_readWord σ x) (fX12_word μ y) (fun r r' => r.1 = σ ∧ r'.1 = μ ∧ r'.2 = r.2 ∧ zr 0 65535 r.2) := by
  subst e
  unfold fX5_readWord fX12_word
  exact zp2_rd h rfl (fun v hv => zp2_rd h rfl (fun w hw => zp2_some ⟨rfl, rfl, rfl, z_rw hv hw⟩))
theorem t_wword (h : zM2 σ μ) {x y v w : Int32} (e : y = x) (f : w = v) (hv : zr 0 65535 v) : zp2 (fX5_writeWord σ x v) (fX12_wordTo μ y w) (fun r r' => zM2 r r' ∧ zQ [15, 17, 19] [] [] [] σ r ∧ zQ [5, 6] [(3, 29, 32)] [] [] μ r') := by
  subst e
  subst f
  unfold fX5_writeWord fX12_wordTo
  exact zp2_wr h rfl rfl (z_r8 _) (fun s t hm q1 q2 => zp2_wr hm rfl (z_hi8 hv) (z_hi hv) (fun s1 t1 hm1 p1 p2 => zp2_some ⟨hm1, q1.tr p1, q2.tr p2⟩))
end ZT3
end ZJN7
section ZJN8
/-! HELPERS, PART 2: stack, pairs, single registers -/
theorem z_m2 (a : Int32) : (((a - 1) &&& 65535) - 1) &&& 65535 = (a - 2) &&& 65535 := by
  refine Int32.toBitVec_inj.1 ?_
  rw [Int32.toBitVec_and, Int32.toBitVec_and, Int32.toBitVec_sub, Int32.toBitVec_and, Int32.toBitVec_sub, Int32.toBitVec_sub]
  refine BitVec.eq_of_toNat_eq ?_
  rw [BitVec.toNat_and, BitVec.toNat_and, BitVec.toNat_sub, BitVec.toNat_and, BitVec.toNat_sub, BitVec.toNat_sub]
  rw [show (65535 : Int32).toBitVec.toNat = 2 ^ 16 - 1 from rfl, show (1 : Int32).toBitVec.toNat = 1 from rfl, show (2 : Int32).toBitVec.toNat = 2 from rfl, Nat.and_two_pow_sub_one_eq_mod, Nat.and_two_pow_sub_one_eq_mod, Nat.and_two_pow_sub_one_eq_mod]
  have := a.toBitVec.isLt
  omega
theorem zJp.of {σ μ σ1 μ1 : zSt} (h : zJp σ μ) (e7 : σ1.1 7 4 = σ.1 7 4) (e0 : μ1.1 0 31 = μ.1 0 31) : zJp σ1 μ1 := by
  unfold zJp
  rw [e7, e0]
  exact h
/-- where M is -/
def zPlc (σ μ : zSt) : Prop := (μ.1 0 32 = 0 ∧ σ.1 7 5 = ((σ.1 36 6 <<< ((8 : Int32) &&& 31)) ||| σ.1 36 7)) ∨ (¬ μ.1 0 32 = 0 ∧ σ.1 7 5 = μ.1 3 20)
theorem zPlc.of {σ μ σ1 μ1 : zSt} (h : zPlc σ μ) (a : σ1.1 7 5 = σ.1 7 5) (b : σ1.1 36 6 = σ.1 36 6) (c : σ1.1 36 7 = σ.1 36 7) (d : μ1.1 3 20 = μ.1 3 20) (e : μ1.1 0 32 = μ.1 0 32) : zPlc σ1 μ1 := by
  unfold zPlc
  rw [a, b, c, d, e]
  exact h
section ZT4
variable {I : zSt → zSt → Prop} {σ μ : zSt}
theorem t_push (hI : zIoK I) (h : zTT I σ μ) {v w : Int32} (e : w = v) (hv : zr 0 65535 v) : zp2 (fX5_push σ v) (fX12_push μ w) (fun r r' => zTT I r r' ∧ zQ [15, 17, 19] [(36, 18, 18)] [] [] σ r ∧ zQ [5, 6] [(3, 18, 18), (3, 29, 32)] [] [] μ r') := by
  subst e
  unfold fX5_push fX12_push
  have e18 : μ.1 3 18 = σ.1 36 18 := h.eq (by decide)
  refine zp2_ckl (zp2_ckr (zp2_ckr (zp2_bvr (fun t1 f1 => zp2_ckr ?_))))
  have q0 : zQ [5, 6] [(3, 18, 18), (3, 29, 32)] [] [] μ t1 := by subst f1; exact zQ.wi zQ.rf rfl
  have hm1 : zM2 σ t1 := h.1.keep zQ.rf (by subst f1; exact zQ.wi zQ.rf rfl)
  have g1 : t1.1 3 18 = (σ.1 36 18 - 1) &&& 65535 := by subst f1; show (μ.1 3 18 - 1) &&& 65535 = _; rw [e18]
  refine zp2_wr hm1 (by rw [show zgi t1 3 (18 : Int32).toNatClampNeg = (σ.1 36 18 - 1) &&& 65535 from g1, z_mm]; rfl) (z_hi8 hv) (z_hi hv) (fun s1 t2 hm2 q1 q2 => ?_)
  have g2 : t2.1 3 18 = (σ.1 36 18 - 1) &&& 65535 := (q2.1 3 18 rfl).trans g1
  have c2 : s1.1 36 18 = σ.1 36 18 := q1.1 36 18 rfl
  refine zp2_ckl (zp2_ckr (zp2_ckr (zp2_bvr (fun t3 f3 => zp2_ckr ?_))))
  have hm3 : zM2 s1 t3 := hm2.keep zQ.rf (by subst f3; exact zQ.wi zQ.rf rfl)
  have q3 : zQ [5, 6] [(3, 18, 18), (3, 29, 32)] [] [] μ t3 := by subst f3; exact zQ.wi (q0.tr (q2.mono rfl rfl)) rfl
  have g3 : t3.1 3 18 = (σ.1 36 18 - 2) &&& 65535 := by subst f3; show (t2.1 3 18 - 1) &&& 65535 = _; rw [g2, z_m2]
  refine zp2_wr hm3 (by rw [show zgi t3 3 (18 : Int32).toNatClampNeg = (σ.1 36 18 - 2) &&& 65535 from g3, z_mm, show zgi s1 36 (18 : Int32).toNatClampNeg = σ.1 36 18 from c2]) rfl (z_r8 _) (fun s2 t4 hm4 q4 q5 => ?_)
  have c4 : s2.1 36 18 = σ.1 36 18 := (q4.1 36 18 rfl).trans c2
  refine zp2_ckl (zp2_ckl (zp2_bvl (fun s3 f4 => zp2_some ?_)))
  have qc : zQ [15, 17, 19] [(36, 18, 18)] [] [] σ s3 := by subst f4; exact zQ.wi ((q1.tr q4).mono rfl rfl) rfl
  have qm : zQ [5, 6] [(3, 18, 18), (3, 29, 32)] [] [] μ t4 := q3.tr (q5.mono rfl rfl)
  refine ⟨h.fin hI [18] (hm4.keep (by subst f4; exact zQ.wi zQ.rf rfl) zQ.rf) (qc.mono rfl rfl) (qm.mono rfl rfl) rfl (zAl1 ⟨?_, ?_⟩) (h.2.2.1.of (qc.1 7 4 rfl) (qm.1 0 31 rfl)), qc, qm⟩
  · rw [(q5.1 3 18 rfl).trans g3]
    subst f4
    show _ = (s2.1 36 18 - 2) &&& 65535
    rw [c4]
  · subst f4
    exact zrg_w (by decide) (by decide) (z_r16 _)
theorem t_pop (hI : zIoK I) (h : zTT I σ μ) : zp2 (fX5_pop σ ) (fX12_pop μ ) (fun r r' => zTT I r.1 r'.1 ∧ r'.2 = r.2 ∧ zr 0 65535 r.2 ∧ zQ [] [(36, 18, 18)] [] [] σ r.1 ∧ zQ [] [(3, 18, 18)] [] [] μ r'.1) := by
  unfold fX5_pop fX12_pop
  have e18 : μ.1 3 18 = σ.1 36 18 := h.eq (by decide)
  refine zp2_ckl (zp2_ckr (zp2_rd h.1 (by rw [show zgi μ 3 (18 : Int32).toNatClampNeg = zgi σ 36 (18 : Int32).toNatClampNeg from e18]) (fun v hv => ?_)))
  refine zp2_ckl (zp2_ckr (zp2_ckr (zp2_bvr (fun t1 f1 => zp2_ckr ?_))))
  have hm1 : zM2 σ t1 := h.1.keep zQ.rf (by subst f1; exact zQ.wi zQ.rf rfl)
  have g1 : t1.1 3 18 = (σ.1 36 18 + 1) &&& 65535 := by subst f1; show (μ.1 3 18 + 1) &&& 65535 = _; rw [e18]
  refine zp2_rd hm1 (by rw [show zgi t1 3 (18 : Int32).toNatClampNeg = (σ.1 36 18 + 1) &&& 65535 from g1, z_mm]; rfl) (fun w hw => ?_)
  refine zp2_bvl (fun y ey => zp2_bvr (fun z ez => ?_))
  refine zp2_ckl (zp2_ckl (zp2_bvl (fun s2 f2 => zp2_ckr (zp2_ckr (zp2_bvr (fun t2 f3 => zp2_some ?_))))))
  have qc : zQ [] [(36, 18, 18)] [] [] σ s2 := by subst f2; exact zQ.wi zQ.rf rfl
  have qm : zQ [] [(3, 18, 18)] [] [] μ t2 := by subst f3; subst f1; exact zQ.wi (zQ.wi zQ.rf rfl) rfl
  refine ⟨h.upd hI [18] qc qm rfl (zAl1 ⟨?_, ?_⟩), ez.trans ey.symm, by rw [ey]; exact z_rw hv hw, qc, qm⟩
  · subst f2
    subst f3
    show (t1.1 3 18 + 1) &&& 65535 = (σ.1 36 18 + 2) &&& 65535
    rw [g1, z_p1]
  · subst f2
    exact zrg_w (by decide) (by decide) (z_r16 _)
theorem t_pair0 (h : zTT I σ μ) (hF : zF σ μ) : zp2 (fX5_pairAt σ 0) (fX12_pair μ 0) (fun r r' => r.1 = σ ∧ r'.1 = μ ∧ r'.2 = r.2 ∧ zr 0 65535 r.2) := by
  unfold fX5_pairAt fX12_pair
  refine zp2_ckl (zp2_ckl (zp2_ckr (zp2_ckr (zp2_some ⟨rfl, rfl, ?_, z_rw' (h.b (j := 0) (by decide)) (h.b (j := 1) (by decide))⟩))))
  show (μ.1 3 0 <<< ((8 : Int32) &&& 31)) ||| μ.1 3 1 = (σ.1 36 0 <<< ((8 : Int32) &&& 31)) ||| σ.1 36 1
  rw [h.eq (by decide), show μ.1 3 1 = σ.1 36 1 from hF]
theorem t_pairTo0 (hI : zIoK I) (h : zTT I σ μ) {v w : Int32} (e : w = v) : zp2 (fX5_putPairAt σ 0 v) (fX12_pairTo μ 0 w) (fun r r' => zTT I r r' ∧ zF r r' ∧ zQ [] [(36, 0, 0), (36, 1, 1)] [] [] σ r ∧ zQ [] [(3, 0, 0), (3, 1, 1)] [] [] μ r') := by
  subst e
  unfold fX5_putPairAt fX12_pairTo
  refine zp2_ckl (zp2_bvl (fun s1 f1 => zp2_ckl (zp2_bvl (fun s2 f2 => zp2_ckr (zp2_bvr (fun t1 g1 => zp2_ckr (zp2_bvr (fun t2 g2 => zp2_some ?_))))))))
  subst f2
  subst f1
  subst g2
  subst g1
  exact ⟨h.upd hI [0, 1] (zQ.wi (zQ.wi zQ.rf rfl) rfl) (zQ.wi (zQ.wi zQ.rf rfl) rfl) rfl (zAl2 ⟨rfl, zrg_b (Or.inl (by decide)) (z_r8 _)⟩ ⟨rfl, zrg_b (Or.inl (by decide)) (z_r8 _)⟩), rfl, zQ.wi (zQ.wi zQ.rf rfl) rfl, zQ.wi (zQ.wi zQ.rf rfl) rfl⟩
theorem t_pair2 (h : zTT I σ μ) : zp2 (fX5_pairAt σ 2) (fX12_pair μ 2) (fun r r' => r.1 = σ ∧ r'.1 = μ ∧ r'.2 = r.2 ∧ zr 0 65535 r.2) := by
  unfold fX5_pairAt fX12_pair
  refine zp2_ckl (zp2_ckl (zp2_ckr (zp2_ckr (zp2_some ⟨rfl, rfl, ?_, z_rw' (h.b (j := 2) (by decide)) (h.b (j := 3) (by decide))⟩))))
  show (μ.1 3 2 <<< ((8 : Int32) &&& 31)) ||| μ.1 3 3 = (σ.1 36 2 <<< ((8 : Int32) &&& 31)) ||| σ.1 36 3
  rw [h.eq (by decide), h.eq (by decide)]
theorem t_pairTo2 (hI : zIoK I) (h : zTT I σ μ) {v w : Int32} (e : w = v) : zp2 (fX5_putPairAt σ 2 v) (fX12_pairTo μ 2 w) (fun r r' => zTT I r r' ∧ zQ [] [(36, 2, 2), (36, 3, 3)] [] [] σ r ∧ zQ [] [(3, 2, 2), (3, 3, 3)] [] [] μ r') := by
  subst e
  unfold fX5_putPairAt fX12_pairTo
  refine zp2_ckl (zp2_bvl (fun s1 f1 => zp2_ckl (zp2_bvl (fun s2 f2 => zp2_ckr (zp2_bvr (fun t1 g1 => zp2_ckr (zp2_bvr (fun t2 g2 => zp2_some ?_))))))))
  subst f2
  subst f1
  subst g2
  subst g1
  exact ⟨h.upd hI [2, 3] (zQ.wi (zQ.wi zQ.rf rfl) rfl) (zQ.wi (zQ.wi zQ.rf rfl) rfl) rfl (zAl2 ⟨rfl, zrg_b (Or.inl (by decide)) (z_r8 _)⟩ ⟨rfl, zrg_b (Or.inl (by decide)) (z_r8 _)⟩), zQ.wi (zQ.wi zQ.rf rfl) rfl, zQ.wi (zQ.wi zQ.rf rfl) rfl⟩
theorem t_pair4 (h : zTT I σ μ) : zp2 (fX5_pairAt σ 4) (fX12_pair μ 4) (fun r r' => r.1 = σ ∧ r'.1 = μ ∧ r'.2 = r.2 ∧ zr 0 65535 r.2) := by
  unfold fX5_pairAt fX12_pair
  refine zp2_ckl (zp2_ckl (zp2_ckr (zp2_ckr (zp2_some ⟨rfl, rfl, ?_, z_rw' (h.b (j := 4) (by decide)) (h.b (j := 5) (by decide))⟩))))
  show (μ.1 3 4 <<< ((8 : Int32) &&& 31)) ||| μ.1 3 5 = (σ.1 36 4 <<< ((8 : Int32) &&& 31)) ||| σ.1 36 5
  rw [h.eq (by decide), h.eq (by decide)]
theorem t_pairTo4 (hI : zIoK I) (h : zTT I σ μ) {v w : Int32} (e : w = v) : zp2 (fX5_putPairAt σ 4 v) (fX12_pairTo μ 4 w) (fun r r' => zTT I r r' ∧ zQ [] [(36, 4, 4), (36, 5, 5)] [] [] σ r ∧ zQ [] [(3, 4, 4), (3, 5, 5)] [] [] μ r') := by
  subst e
  unfold fX5_putPairAt fX12_pairTo
  refine zp2_ckl (zp2_bvl (fun s1 f1 => zp2_ckl (zp2_bvl (fun s2 f2 => zp2_ckr (zp2_bvr (fun t1 g1 => zp2_ckr (zp2_bvr (fun t2 g2 => zp2_some ?_))))))))
  subst f2
  subst f1
  subst g2
  subst g1
  exact ⟨h.upd hI [4, 5] (zQ.wi (zQ.wi zQ.rf rfl) rfl) (zQ.wi (zQ.wi zQ.rf rfl) rfl) rfl (zAl2 ⟨rfl, zrg_b (Or.inl (by decide)) (z_r8 _)⟩ ⟨rfl, zrg_b (Or.inl (by decide)) (z_r8 _)⟩), zQ.wi (zQ.wi zQ.rf rfl) rfl, zQ.wi (zQ.wi zQ.rf rfl) rfl⟩
theorem t_pair6 (h : zTT I σ μ) : zp2 (fX5_pairAt σ 6) (fX12_pair μ 6) (fun r r' => r.1 = σ ∧ r'.1 = μ ∧ r'.2 = r.2 ∧ zr 0 65535 r.2) := by
  unfold fX5_pairAt fX12_pair
  refine zp2_ckl (zp2_ckl (zp2_ckr (zp2_ckr (zp2_some ⟨rfl, rfl, ?_, z_rw' (h.b (j := 6) (by decide)) (h.b (j := 7) (by decide))⟩))))
  show (μ.1 3 6 <<< ((8 : Int32) &&& 31)) ||| μ.1 3 7 = (σ.1 36 6 <<< ((8 : Int32) &&& 31)) ||| σ.1 36 7
  rw [h.eq (by decide), h.eq (by decide)]
theorem t_pairTo6 (hI : zIoK I) (h : zTT I σ μ) {v w : Int32} (e : w = v) : zp2 (fX5_putPairAt σ 6 v) (fX12_pairTo μ 6 w) (fun r r' => zTT I r r' ∧ zQ [] [(36, 6, 6), (36, 7, 7)] [] [] σ r ∧ zQ [] [(3, 6, 6), (3, 7, 7)] [] [] μ r') := by
  subst e
  unfold fX5_putPairAt fX12_pairTo
  refine zp2_ckl (zp2_bvl (fun s1 f1 => zp2_ckl (zp2_bvl (fun s2 f2 => zp2_ckr (zp2_bvr (fun t1 g1 => zp2_ckr (zp2_bvr (fun t2 g2 => zp2_some ?_))))))))
  subst f2
  subst f1
  subst g2
  subst g1
  exact ⟨h.upd hI [6, 7] (zQ.wi (zQ.wi zQ.rf rfl) rfl) (zQ.wi (zQ.wi zQ.rf rfl) rfl) rfl (zAl2 ⟨rfl, zrg_b (Or.inl (by decide)) (z_r8 _)⟩ ⟨rfl, zrg_b (Or.inl (by decide)) (z_r8 _)⟩), zQ.wi (zQ.wi zQ.rf rfl) rfl, zQ.wi (zQ.wi zQ.rf rfl) rfl⟩
theorem t_hl (h : zTT I σ μ) : zp2 (fX5_hl σ ) (fX12_hl μ ) (fun r r' => r.1 = σ ∧ r'.1 = μ ∧ r'.2 = r.2 ∧ zr 0 65535 r.2) := by
  unfold fX5_hl fX12_hl fX5_hl_27 fX12_hl_25
  rcases h.2.2.1 with ⟨a, b⟩ | ⟨a, b⟩ | ⟨a, b⟩
  · exact zp2_ifl (fun _ => zp2_ifr (fun _ => zp2_bii (t_pair6 h) (fun s v t w q => zp2_some q)) (fun q => absurd b q)) (fun q => absurd a q)
  · refine zp2_ifl (fun q => absurd (a.symm.trans q) (by decide)) (fun _ => zp2_ifr (fun q => absurd (b.symm.trans q) (by decide)) (fun _ => ?_))
    rw [show zgi σ 7 4 = 16 from a, show zgi μ 0 31 = 16 from b]
    exact zp2_ckl (zp2_ckr (zp2_some ⟨rfl, rfl, h.eq (j := 16) (by decide), h.w (j := 16) (by decide) (by decide)⟩))
  · refine zp2_ifl (fun q => absurd (a.symm.trans q) (by decide)) (fun _ => zp2_ifr (fun q => absurd (b.symm.trans q) (by decide)) (fun _ => ?_))
    rw [show zgi σ 7 4 = 17 from a, show zgi μ 0 31 = 17 from b]
    exact zp2_ckl (zp2_ckr (zp2_some ⟨rfl, rfl, h.eq (j := 17) (by decide), h.w (j := 17) (by decide) (by decide)⟩))
theorem t_hlTo (hI : zIoK I) (h : zTT I σ μ) {v w : Int32} (e : w = v) : zp2 (fX5_putHl σ v) (fX12_hlTo μ w) (fun r r' => zTT I r r' ∧ zQ [] [(36, 6, 7), (36, 16, 17)] [] [] σ r ∧ zQ [] [(3, 6, 7), (3, 16, 17)] [] [] μ r') := by
  unfold fX5_putHl fX12_hlTo fX5_putHl_32 fX12_hlTo_30
  rcases h.2.2.1 with ⟨a, b⟩ | ⟨a, b⟩ | ⟨a, b⟩
  · exact zp2_ifl (fun _ => zp2_ifr (fun _ => zp2_buu (t_pairTo6 hI h e) (fun s t q => zp2_some ⟨q.1, q.2.1.mono rfl rfl, q.2.2.mono rfl rfl⟩)) (fun q => absurd b q)) (fun q => absurd a q)
  · refine zp2_ifl (fun q => absurd (a.symm.trans q) (by decide)) (fun _ => zp2_ifr (fun q => absurd (b.symm.trans q) (by decide)) (fun _ => ?_))
    rw [show zgi σ 7 4 = 16 from a, show zgi μ 0 31 = 16 from b]
    refine zp2_ckl (zp2_bvl (fun s f => zp2_ckr (zp2_bvr (fun t g => zp2_some ?_))))
    subst f
    subst g
    subst e
    exact ⟨h.upd hI [16] (zQ.wi zQ.rf rfl) (zQ.wi zQ.rf rfl) rfl (zAl1 ⟨rfl, zrg_w (by decide) (by decide) (z_r16 _)⟩), zQ.wi zQ.rf rfl, zQ.wi zQ.rf rfl⟩
  · refine zp2_ifl (fun q => absurd (a.symm.trans q) (by decide)) (fun _ => zp2_ifr (fun q => absurd (b.symm.trans q) (by decide)) (fun _ => ?_))
    rw [show zgi σ 7 4 = 17 from a, show zgi μ 0 31 = 17 from b]
    refine zp2_ckl (zp2_bvl (fun s f => zp2_ckr (zp2_bvr (fun t g => zp2_some ?_))))
    subst f
    subst g
    subst e
    exact ⟨h.upd hI [17] (zQ.wi zQ.rf rfl) (zQ.wi zQ.rf rfl) rfl (zAl1 ⟨rfl, zrg_w (by decide) (by decide) (z_r16 _)⟩), zQ.wi zQ.rf rfl, zQ.wi zQ.rf rfl⟩
theorem t_rp (h : zTT I σ μ) {p : Int32} (hp : zr 0 3 p) : zp2 (fX5_pair σ p) (fX12_rp μ p) (fun r r' => r.1 = σ ∧ r'.1 = μ ∧ r'.2 = r.2 ∧ zr 0 65535 r.2) := by
  unfold fX5_pair fX12_rp fX12_rp_44
  refine zp2_if (fun _ => zp2_bii (t_pair2 h) (fun s v t w q => zp2_some q)) (fun _ => zp2_if (fun _ => zp2_bii (t_pair4 h) (fun s v t w q => zp2_some q)) (fun _ => zp2_if (fun _ => zp2_bii (t_hl h) (fun s v t w q => zp2_some q)) (fun _ => ?_)))
  exact zp2_ckl (zp2_ckr (zp2_some ⟨rfl, rfl, h.eq (j := 18) (by decide), h.w (j := 18) (by decide) (by decide)⟩))
theorem t_rpTo (hI : zIoK I) (h : zTT I σ μ) {p v w : Int32} (e : w = v) : zp2 (fX5_putPair σ p v) (fX12_rpTo μ p w) (fun r r' => zTT I r r' ∧ zQ [] [(36, 2, 7), (36, 16, 18)] [] [] σ r ∧ zQ [] [(3, 2, 7), (3, 16, 18)] [] [] μ r') := by
  unfold fX5_putPair fX12_rpTo fX5_putPair_65 fX12_rpTo_51
  refine zp2_if (fun _ => zp2_buu (t_pairTo2 hI h e) (fun s t q => zp2_some ⟨q.1, q.2.1.mono rfl rfl, q.2.2.mono rfl rfl⟩)) (fun _ => zp2_if (fun _ => zp2_buu (t_pairTo4 hI h e) (fun s t q => zp2_some ⟨q.1, q.2.1.mono rfl rfl, q.2.2.mono rfl rfl⟩)) (fun _ => zp2_if (fun _ => zp2_buu (t_hlTo hI h e) (fun s t q => zp2_some ⟨q.1, q.2.1.mono rfl rfl, q.2.2.mono rfl rfl⟩)) (fun _ => ?_)))
  refine zp2_ckl (zp2_bvl (fun s f => zp2_ckr (zp2_bvr (fun t g => zp2_some ?_))))
  subst f
  subst g
  subst e
  exact ⟨h.upd hI [18] (zQ.wi zQ.rf rfl) (zQ.wi zQ.rf rfl) rfl (zAl1 ⟨rfl, zrg_w (by decide) (by decide) (z_r16 _)⟩), zQ.wi zQ.rf rfl, zQ.wi zQ.rf rfl⟩
theorem p_m (h : zTT I σ μ) (hp : zPlc σ μ) : zpc (fX12_m μ ) (fun r => r = (μ, σ.1 7 5)) := by
  unfold fX12_m fX12_m_23
  rcases hp with ⟨a, b⟩ | ⟨a, b⟩
  · refine zpc_if (fun _ => zpc_bi (P := fun r => r = (μ, σ.1 7 5)) ?_ (fun s v e => zpc_some e)) (fun q => absurd a q)
    unfold fX12_pair
    refine zpc_ck (zpc_ck (zpc_some ?_))
    show (μ, (μ.1 3 6 <<< ((8 : Int32) &&& 31)) ||| μ.1 3 7) = _
    rw [b, h.eq (by decide), h.eq (by decide)]
  · refine zpc_if (fun q => absurd q a) (fun _ => zpc_ck (zpc_some ?_))
    show (μ, μ.1 3 20) = _
    rw [b]
theorem zr_hd {x c : Int32} {a b : Int} (h : zr a b x) (hc : c.toInt = a) : x = c ∨ zr (a + 1) b x := by
  by_cases q : x.toInt = a
  · exact Or.inl (Int32.toInt_inj.mp (by omega))
  · exact Or.inr ⟨by have := h.1; omega, h.2⟩
theorem zr_no9 {x : Int32} {a b : Int} {P : Prop} (h : zr a b x) (c : b < a) : P := by have := h.1; have := h.2; exfalso; omega
theorem z_shr8 {w : Int32} (h : zr 0 65535 w) : zr 0 255 (w >>> ((8 : Int32) &&& 31)) := z_hi h
theorem t_one (h : zTT I σ μ) (hp : zPlc σ μ) {k : Int32} (hk : zr 0 7 k) : zp2 (fX5_one σ k) (fX12_r μ k) (fun r r' => r.1 = σ ∧ r'.1 = μ ∧ r'.2 = r.2 ∧ zr 0 255 r.2) := by
  unfold fX5_one fX12_r fX5_one_63 fX5_one_96 fX12_r_73 fX12_r_74
  rcases zr_hd (c := 0) hk rfl with e | hk
  · subst e
    refine zp2_ifl (fun q => absurd q (by decide)) (fun _ => zp2_ifl (fun q => absurd q (by decide)) (fun _ => zp2_ifl (fun q => absurd q (by decide)) (fun _ => zp2_ifl (fun q => absurd q (by decide)) (fun _ => zp2_ckl ?_))))
    exact zp2_ifr (fun q => absurd q (by decide)) (fun _ => zp2_ifr (fun q => absurd q (by decide)) (fun _ => zp2_ifr (fun _ => zp2_ckr (zp2_some ⟨rfl, rfl, h.eq (j := 2) (by decide), h.b (j := 2) (by decide)⟩)) (fun _ => zp2_ifr (fun _ => zp2_ckr (zp2_some ⟨rfl, rfl, h.eq (j := 2) (by decide), h.b (j := 2) (by decide)⟩)) (fun q => absurd (by decide) q))))
  rcases zr_hd (c := 1) hk rfl with e | hk
  · subst e
    refine zp2_ifl (fun q => absurd q (by decide)) (fun _ => zp2_ifl (fun q => absurd q (by decide)) (fun _ => zp2_ifl (fun q => absurd q (by decide)) (fun _ => zp2_ifl (fun q => absurd q (by decide)) (fun _ => zp2_ckl ?_))))
    exact zp2_ifr (fun q => absurd q (by decide)) (fun _ => zp2_ifr (fun q => absurd q (by decide)) (fun _ => zp2_ifr (fun _ => zp2_ckr (zp2_some ⟨rfl, rfl, h.eq (j := 3) (by decide), h.b (j := 3) (by decide)⟩)) (fun _ => zp2_ifr (fun _ => zp2_ckr (zp2_some ⟨rfl, rfl, h.eq (j := 3) (by decide), h.b (j := 3) (by decide)⟩)) (fun q => absurd (by decide) q))))
  rcases zr_hd (c := 2) hk rfl with e | hk
  · subst e
    refine zp2_ifl (fun q => absurd q (by decide)) (fun _ => zp2_ifl (fun q => absurd q (by decide)) (fun _ => zp2_ifl (fun q => absurd q (by decide)) (fun _ => zp2_ifl (fun q => absurd q (by decide)) (fun _ => zp2_ckl ?_))))
    exact zp2_ifr (fun q => absurd q (by decide)) (fun _ => zp2_ifr (fun q => absurd q (by decide)) (fun _ => zp2_ifr (fun _ => zp2_ckr (zp2_some ⟨rfl, rfl, h.eq (j := 4) (by decide), h.b (j := 4) (by decide)⟩)) (fun _ => zp2_ifr (fun _ => zp2_ckr (zp2_some ⟨rfl, rfl, h.eq (j := 4) (by decide), h.b (j := 4) (by decide)⟩)) (fun q => absurd (by decide) q))))
  rcases zr_hd (c := 3) hk rfl with e | hk
  · subst e
    refine zp2_ifl (fun q => absurd q (by decide)) (fun _ => zp2_ifl (fun q => absurd q (by decide)) (fun _ => zp2_ifl (fun q => absurd q (by decide)) (fun _ => zp2_ifl (fun q => absurd q (by decide)) (fun _ => zp2_ckl ?_))))
    exact zp2_ifr (fun q => absurd q (by decide)) (fun _ => zp2_ifr (fun q => absurd q (by decide)) (fun _ => zp2_ifr (fun _ => zp2_ckr (zp2_some ⟨rfl, rfl, h.eq (j := 5) (by decide), h.b (j := 5) (by decide)⟩)) (fun _ => zp2_ifr (fun _ => zp2_ckr (zp2_some ⟨rfl, rfl, h.eq (j := 5) (by decide), h.b (j := 5) (by decide)⟩)) (fun q => absurd (by decide) q))))
  rcases zr_hd (c := 4) hk rfl with e | hk
  · subst e
    rcases h.2.2.1 with ⟨a, b⟩ | ⟨a, b⟩ | ⟨a, b⟩
    · refine zp2_ifl (fun _ => zp2_ifl (fun _ => zp2_ckl ?_) (fun q => absurd a q)) (fun q => absurd rfl q)
      rw [show zgi μ 0 31 = 0 from b]
      exact zp2_ifr (fun q => absurd q (by decide)) (fun _ => zp2_ifr (fun q => absurd q (by decide)) (fun _ => zp2_ifr (fun _ => zp2_ckr (zp2_some ⟨rfl, rfl, h.eq (j := 6) (by decide), h.b (j := 6) (by decide)⟩)) (fun q => absurd (by decide) q)))
    · refine zp2_ifl (fun _ => zp2_ifl (fun q => absurd (a.symm.trans q) (by decide)) (fun _ => zp2_ckl ?_)) (fun q => absurd rfl q)
      rw [show zgi σ 7 4 = 16 from a, show zgi μ 0 31 = 16 from b]
      refine zp2_ifr (fun q => absurd q (by decide)) (fun _ => zp2_ifr (fun q => absurd q (by decide)) (fun _ => zp2_ifr (fun q => absurd q (by decide)) (fun _ => zp2_ifr (fun q => absurd q (by decide)) (fun _ => zp2_ifr (fun _ => zp2_ckr (zp2_some ⟨rfl, rfl, ?_, z_shr8 (h.w (j := 16) (by decide) (by decide))⟩)) (fun q => absurd rfl q)))))
      show μ.1 3 16 >>> ((8 : Int32) &&& 31) = σ.1 36 16 >>> ((8 : Int32) &&& 31)
      rw [h.eq (by decide)]
    · refine zp2_ifl (fun _ => zp2_ifl (fun q => absurd (a.symm.trans q) (by decide)) (fun _ => zp2_ckl ?_)) (fun q => absurd rfl q)
      rw [show zgi σ 7 4 = 17 from a, show zgi μ 0 31 = 17 from b]
      refine zp2_ifr (fun q => absurd q (by decide)) (fun _ => zp2_ifr (fun q => absurd q (by decide)) (fun _ => zp2_ifr (fun q => absurd q (by decide)) (fun _ => zp2_ifr (fun q => absurd q (by decide)) (fun _ => zp2_ifr (fun _ => zp2_ckr (zp2_some ⟨rfl, rfl, ?_, z_shr8 (h.w (j := 17) (by decide) (by decide))⟩)) (fun q => absurd rfl q)))))
      show μ.1 3 17 >>> ((8 : Int32) &&& 31) = σ.1 36 17 >>> ((8 : Int32) &&& 31)
      rw [h.eq (by decide)]
  rcases zr_hd (c := 5) hk rfl with e | hk
  · subst e
    rcases h.2.2.1 with ⟨a, b⟩ | ⟨a, b⟩ | ⟨a, b⟩
    · refine zp2_ifl (fun q => absurd q (by decide)) (fun _ => zp2_ifl (fun _ => zp2_ifl (fun _ => zp2_ckl ?_) (fun q => absurd a q)) (fun q => absurd rfl q))
      rw [show zgi μ 0 31 = 0 from b]
      exact zp2_ifr (fun q => absurd q (by decide)) (fun _ => zp2_ifr (fun q => absurd q (by decide)) (fun _ => zp2_ifr (fun _ => zp2_ckr (zp2_some ⟨rfl, rfl, h.eq (j := 7) (by decide), h.b (j := 7) (by decide)⟩)) (fun q => absurd (by decide) q)))
    · refine zp2_ifl (fun q => absurd q (by decide)) (fun _ => zp2_ifl (fun _ => zp2_ifl (fun q => absurd (a.symm.trans q) (by decide)) (fun _ => zp2_ckl ?_)) (fun q => absurd rfl q))
      rw [show zgi σ 7 4 = 16 from a, show zgi μ 0 31 = 16 from b]
      refine zp2_ifr (fun q => absurd q (by decide)) (fun _ => zp2_ifr (fun q => absurd q (by decide)) (fun _ => zp2_ifr (fun q => absurd q (by decide)) (fun _ => zp2_ifr (fun q => absurd q (by decide)) (fun _ => zp2_ifr (fun q => absurd q (by decide)) (fun _ => zp2_ckr (zp2_some ⟨rfl, rfl, ?_, z_r8 _⟩))))))
      show μ.1 3 16 &&& 255 = σ.1 36 16 &&& 255
      rw [h.eq (by decide)]
    · refine zp2_ifl (fun q => absurd q (by decide)) (fun _ => zp2_ifl (fun _ => zp2_ifl (fun q => absurd (a.symm.trans q) (by decide)) (fun _ => zp2_ckl ?_)) (fun q => absurd rfl q))
      rw [show zgi σ 7 4 = 17 from a, show zgi μ 0 31 = 17 from b]
      refine zp2_ifr (fun q => absurd q (by decide)) (fun _ => zp2_ifr (fun q => absurd q (by decide)) (fun _ => zp2_ifr (fun q => absurd q (by decide)) (fun _ => zp2_ifr (fun q => absurd q (by decide)) (fun _ => zp2_ifr (fun q => absurd q (by decide)) (fun _ => zp2_ckr (zp2_some ⟨rfl, rfl, ?_, z_r8 _⟩))))))
      show μ.1 3 17 &&& 255 = σ.1 36 17 &&& 255
      rw [h.eq (by decide)]
  rcases zr_hd (c := 6) hk rfl with e | hk
  · subst e
    refine zp2_ifl (fun q => absurd q (by decide)) (fun _ => zp2_ifl (fun q => absurd q (by decide)) (fun _ => zp2_ifl (fun _ => zp2_ifr (fun _ => ?_) (fun q => absurd rfl q)) (fun q => absurd rfl q)))
    refine zp2_bir (p_m h hp) (fun t w et => ?_)
    cases et
    exact zp2_rd h.1 rfl (fun v hv => zp2_some ⟨rfl, rfl, rfl, hv⟩)
  rcases zr_hd (c := 7) hk rfl with e | hk
  · subst e
    refine zp2_ifl (fun q => absurd q (by decide)) (fun _ => zp2_ifl (fun q => absurd q (by decide)) (fun _ => zp2_ifl (fun q => absurd q (by decide)) (fun _ => zp2_ifl (fun _ => zp2_ckl ?_) (fun q => absurd rfl q))))
    exact zp2_ifr (fun q => absurd q (by decide)) (fun _ => zp2_ifr (fun _ => zp2_ckr (zp2_some ⟨rfl, rfl, h.eq (j := 0) (by decide), h.b (j := 0) (by decide)⟩)) (fun q => absurd rfl q))
  exact zr_no9 hk (by decide)
theorem t_putOne (hI : zIoK I) (h : zTT I σ μ) (hp : zPlc σ μ) {k v w : Int32} (hk : zr 0 7 k) (e : w &&& 255 = v) (hv : zr 0 255 v) : zp2 (fX5_putOne σ k v) (fX12_rTo μ k w) (fun r r' => zTT I r r' ∧ zQ [15, 17, 19] [(36, 0, 0), (36, 2, 7), (36, 16, 17)] [] [] σ r ∧ zQ [5, 6] [(3, 0, 0), (3, 2, 7), (3, 16, 17), (3, 29, 32)] [] [] μ r') := by
  unfold fX5_putOne fX12_rTo fX5_putOne_88 fX12_rTo_113 fX12_rTo_104 fX12_rTo_100 fX5_putPairHalf fX5_putPairHalf_68 fX5_putPairHalf_69
  refine zp2_bvr (fun y ey => ?_)
  have ey : y = v := ey.trans e
  subst ey
  rcases zr_hd (c := 0) hk rfl with e1 | hk
  · subst e1
    have fin : zp2 (zck (zin (2 + (0 &&& 3)) 29) (zbv (zsi σ 36 ((2 + (0 &&& 3) : Int32).toNatClampNeg) y) (fun σ5 => some σ5))) (zck (zin (2 + 0) 1048) (zbv (zsi μ 3 ((2 + 0 : Int32).toNatClampNeg) y) (fun σ1 => some σ1))) (fun r r' => zTT I r r' ∧ zQ [15, 17, 19] [(36, 0, 0), (36, 2, 7), (36, 16, 17)] [] [] σ r ∧ zQ [5, 6] [(3, 0, 0), (3, 2, 7), (3, 16, 17), (3, 29, 32)] [] [] μ r') := by
      refine zp2_ckl (zp2_bvl (fun s f => zp2_ckr (zp2_bvr (fun t g => zp2_some ?_))))
      subst f
      subst g
      exact ⟨h.upd hI [2] (zQ.wi zQ.rf rfl) (zQ.wi zQ.rf rfl) rfl (zAl1 ⟨rfl, zrg_b (Or.inl (by decide)) hv⟩), zQ.wi zQ.rf rfl, zQ.wi zQ.rf rfl⟩
    exact zp2_ifl (fun q => absurd q (by decide)) (fun _ => zp2_ifl (fun q => absurd q (by decide)) (fun _ => zp2_ifl (fun q => absurd q (by decide)) (fun _ => zp2_ifl (fun q => absurd q (by decide)) (fun _ => zp2_ifr (fun q => absurd q (by decide)) (fun _ => zp2_ifr (fun q => absurd q (by decide)) (fun _ => zp2_ifr (fun _ => fin) (fun _ => zp2_ifr (fun _ => fin) (fun q => absurd (by decide) q))))))))
  rcases zr_hd (c := 1) hk rfl with e1 | hk
  · subst e1
    have fin : zp2 (zck (zin (2 + (1 &&& 3)) 29) (zbv (zsi σ 36 ((2 + (1 &&& 3) : Int32).toNatClampNeg) y) (fun σ5 => some σ5))) (zck (zin (2 + 1) 1048) (zbv (zsi μ 3 ((2 + 1 : Int32).toNatClampNeg) y) (fun σ1 => some σ1))) (fun r r' => zTT I r r' ∧ zQ [15, 17, 19] [(36, 0, 0), (36, 2, 7), (36, 16, 17)] [] [] σ r ∧ zQ [5, 6] [(3, 0, 0), (3, 2, 7), (3, 16, 17), (3, 29, 32)] [] [] μ r') := by
      refine zp2_ckl (zp2_bvl (fun s f => zp2_ckr (zp2_bvr (fun t g => zp2_some ?_))))
      subst f
      subst g
      exact ⟨h.upd hI [3] (zQ.wi zQ.rf rfl) (zQ.wi zQ.rf rfl) rfl (zAl1 ⟨rfl, zrg_b (Or.inl (by decide)) hv⟩), zQ.wi zQ.rf rfl, zQ.wi zQ.rf rfl⟩
    exact zp2_ifl (fun q => absurd q (by decide)) (fun _ => zp2_ifl (fun q => absurd q (by decide)) (fun _ => zp2_ifl (fun q => absurd q (by decide)) (fun _ => zp2_ifl (fun q => absurd q (by decide)) (fun _ => zp2_ifr (fun q => absurd q (by decide)) (fun _ => zp2_ifr (fun q => absurd q (by decide)) (fun _ => zp2_ifr (fun _ => fin) (fun _ => zp2_ifr (fun _ => fin) (fun q => absurd (by decide) q))))))))
  rcases zr_hd (c := 2) hk rfl with e1 | hk
  · subst e1
    have fin : zp2 (zck (zin (2 + (2 &&& 3)) 29) (zbv (zsi σ 36 ((2 + (2 &&& 3) : Int32).toNatClampNeg) y) (fun σ5 => some σ5))) (zck (zin (2 + 2) 1048) (zbv (zsi μ 3 ((2 + 2 : Int32).toNatClampNeg) y) (fun σ1 => some σ1))) (fun r r' => zTT I r r' ∧ zQ [15, 17, 19] [(36, 0, 0), (36, 2, 7), (36, 16, 17)] [] [] σ r ∧ zQ [5, 6] [(3, 0, 0), (3, 2, 7), (3, 16, 17), (3, 29, 32)] [] [] μ r') := by
      refine zp2_ckl (zp2_bvl (fun s f => zp2_ckr (zp2_bvr (fun t g => zp2_some ?_))))
      subst f
      subst g
      exact ⟨h.upd hI [4] (zQ.wi zQ.rf rfl) (zQ.wi zQ.rf rfl) rfl (zAl1 ⟨rfl, zrg_b (Or.inl (by decide)) hv⟩), zQ.wi zQ.rf rfl, zQ.wi zQ.rf rfl⟩
    exact zp2_ifl (fun q => absurd q (by decide)) (fun _ => zp2_ifl (fun q => absurd q (by decide)) (fun _ => zp2_ifl (fun q => absurd q (by decide)) (fun _ => zp2_ifl (fun q => absurd q (by decide)) (fun _ => zp2_ifr (fun q => absurd q (by decide)) (fun _ => zp2_ifr (fun q => absurd q (by decide)) (fun _ => zp2_ifr (fun _ => fin) (fun _ => zp2_ifr (fun _ => fin) (fun q => absurd (by decide) q))))))))
  rcases zr_hd (c := 3) hk rfl with e1 | hk
  · subst e1
    have fin : zp2 (zck (zin (2 + (3 &&& 3)) 29) (zbv (zsi σ 36 ((2 + (3 &&& 3) : Int32).toNatClampNeg) y) (fun σ5 => some σ5))) (zck (zin (2 + 3) 1048) (zbv (zsi μ 3 ((2 + 3 : Int32).toNatClampNeg) y) (fun σ1 => some σ1))) (fun r r' => zTT I r r' ∧ zQ [15, 17, 19] [(36, 0, 0), (36, 2, 7), (36, 16, 17)] [] [] σ r ∧ zQ [5, 6] [(3, 0, 0), (3, 2, 7), (3, 16, 17), (3, 29, 32)] [] [] μ r') := by
      refine zp2_ckl (zp2_bvl (fun s f => zp2_ckr (zp2_bvr (fun t g => zp2_some ?_))))
      subst f
      subst g
      exact ⟨h.upd hI [5] (zQ.wi zQ.rf rfl) (zQ.wi zQ.rf rfl) rfl (zAl1 ⟨rfl, zrg_b (Or.inl (by decide)) hv⟩), zQ.wi zQ.rf rfl, zQ.wi zQ.rf rfl⟩
    exact zp2_ifl (fun q => absurd q (by decide)) (fun _ => zp2_ifl (fun q => absurd q (by decide)) (fun _ => zp2_ifl (fun q => absurd q (by decide)) (fun _ => zp2_ifl (fun q => absurd q (by decide)) (fun _ => zp2_ifr (fun q => absurd q (by decide)) (fun _ => zp2_ifr (fun q => absurd q (by decide)) (fun _ => zp2_ifr (fun _ => fin) (fun _ => zp2_ifr (fun _ => fin) (fun q => absurd (by decide) q))))))))
  rcases zr_hd (c := 4) hk rfl with e1 | hk
  · subst e1
    rcases h.2.2.1 with ⟨a, b⟩ | ⟨a, b⟩ | ⟨a, b⟩
    · refine zp2_ifl (fun _ => ?_) (fun q => absurd rfl q)
      rw [show zgi μ 0 31 = 0 from b]
      refine zp2_ifr (fun q => absurd q (by decide)) (fun _ => zp2_ifr (fun q => absurd q (by decide)) (fun _ => zp2_ifr (fun _ => ?_) (fun q => absurd (by decide) q)))
      refine zp2_bul (P := fun r => r = zsi σ 36 6 y) (zpc_if (fun _ => zpc_ck (zpc_bv (fun s f => zpc_some f))) (fun q => absurd a q)) (fun s f => zp2_ckr (zp2_bvr (fun t g => zp2_some ?_)))
      subst f
      subst g
      exact ⟨h.upd hI [6] (zQ.wi zQ.rf rfl) (zQ.wi zQ.rf rfl) rfl (zAl1 ⟨rfl, zrg_b (Or.inl (by decide)) hv⟩), zQ.wi zQ.rf rfl, zQ.wi zQ.rf rfl⟩
    · refine zp2_ifl (fun _ => ?_) (fun q => absurd rfl q)
      refine zp2_bul (P := fun r => r = zsi σ 36 16 ((y <<< ((8 : Int32) &&& 31)) ||| (σ.1 36 16 &&& 255))) ?_ (fun s f => ?_)
      · refine zpc_if (fun q => absurd (a.symm.trans q) (by decide)) (fun _ => zpc_if (fun _ => zpc_ck ?_) (fun q => absurd rfl q))
        rw [show zgi σ 7 4 = 16 from a]
        exact zpc_ck (zpc_bv (fun s f => zpc_some f))
      rw [show zgi μ 0 31 = 16 from b]
      refine zp2_ifr (fun q => absurd q (by decide)) (fun _ => zp2_ifr (fun q => absurd q (by decide)) (fun _ => zp2_ifr (fun q => absurd q (by decide)) (fun _ => zp2_ifr (fun q => absurd q (by decide)) (fun _ => zp2_ifr (fun _ => zp2_ckr ?_) (fun q => absurd rfl q)))))
      refine zp2_ckr (zp2_bvr (fun t g => zp2_some ?_))
      subst f
      subst g
      refine ⟨h.upd hI [16] (zQ.wi zQ.rf rfl) (zQ.wi zQ.rf rfl) rfl (zAl1 ⟨?_, zrg_w (by decide) (by decide) (z_rw' hv (z_r8 _))⟩), zQ.wi zQ.rf rfl, zQ.wi zQ.rf rfl⟩
      show (y <<< ((8 : Int32) &&& 31)) ||| (μ.1 3 16 &&& 255) = (y <<< ((8 : Int32) &&& 31)) ||| (σ.1 36 16 &&& 255)
      rw [h.eq (by decide)]
    · refine zp2_ifl (fun _ => ?_) (fun q => absurd rfl q)
      refine zp2_bul (P := fun r => r = zsi σ 36 17 ((y <<< ((8 : Int32) &&& 31)) ||| (σ.1 36 17 &&& 255))) ?_ (fun s f => ?_)
      · refine zpc_if (fun q => absurd (a.symm.trans q) (by decide)) (fun _ => zpc_if (fun _ => zpc_ck ?_) (fun q => absurd rfl q))
        rw [show zgi σ 7 4 = 17 from a]
        exact zpc_ck (zpc_bv (fun s f => zpc_some f))
      rw [show zgi μ 0 31 = 17 from b]
      refine zp2_ifr (fun q => absurd q (by decide)) (fun _ => zp2_ifr (fun q => absurd q (by decide)) (fun _ => zp2_ifr (fun q => absurd q (by decide)) (fun _ => zp2_ifr (fun q => absurd q (by decide)) (fun _ => zp2_ifr (fun _ => zp2_ckr ?_) (fun q => absurd rfl q)))))
      refine zp2_ckr (zp2_bvr (fun t g => zp2_some ?_))
      subst f
      subst g
      refine ⟨h.upd hI [17] (zQ.wi zQ.rf rfl) (zQ.wi zQ.rf rfl) rfl (zAl1 ⟨?_, zrg_w (by decide) (by decide) (z_rw' hv (z_r8 _))⟩), zQ.wi zQ.rf rfl, zQ.wi zQ.rf rfl⟩
      show (y <<< ((8 : Int32) &&& 31)) ||| (μ.1 3 17 &&& 255) = (y <<< ((8 : Int32) &&& 31)) ||| (σ.1 36 17 &&& 255)
      rw [h.eq (by decide)]
  rcases zr_hd (c := 5) hk rfl with e1 | hk
  · subst e1
    rcases h.2.2.1 with ⟨a, b⟩ | ⟨a, b⟩ | ⟨a, b⟩
    · refine zp2_ifl (fun q => absurd q (by decide)) (fun _ => zp2_ifl (fun _ => ?_) (fun q => absurd rfl q))
      rw [show zgi μ 0 31 = 0 from b]
      refine zp2_ifr (fun q => absurd q (by decide)) (fun _ => zp2_ifr (fun q => absurd q (by decide)) (fun _ => zp2_ifr (fun _ => ?_) (fun q => absurd (by decide) q)))
      refine zp2_bul (P := fun r => r = zsi σ 36 7 y) (zpc_if (fun _ => zpc_ck (zpc_bv (fun s f => zpc_some f))) (fun q => absurd a q)) (fun s f => zp2_ckr (zp2_bvr (fun t g => zp2_some ?_)))
      subst f
      subst g
      exact ⟨h.upd hI [7] (zQ.wi zQ.rf rfl) (zQ.wi zQ.rf rfl) rfl (zAl1 ⟨rfl, zrg_b (Or.inl (by decide)) hv⟩), zQ.wi zQ.rf rfl, zQ.wi zQ.rf rfl⟩
    · refine zp2_ifl (fun q => absurd q (by decide)) (fun _ => zp2_ifl (fun _ => ?_) (fun q => absurd rfl q))
      refine zp2_bul (P := fun r => r = zsi σ 36 16 ((σ.1 36 16 &&& 65280) ||| y)) ?_ (fun s f => ?_)
      · refine zpc_if (fun q => absurd (a.symm.trans q) (by decide)) (fun _ => zpc_if (fun q => absurd q (by decide)) (fun _ => zpc_ck ?_))
        rw [show zgi σ 7 4 = 16 from a]
        exact zpc_ck (zpc_bv (fun s f => zpc_some f))
      rw [show zgi μ 0 31 = 16 from b]
      refine zp2_ifr (fun q => absurd q (by decide)) (fun _ => zp2_ifr (fun q => absurd q (by decide)) (fun _ => zp2_ifr (fun q => absurd q (by decide)) (fun _ => zp2_ifr (fun q => absurd q (by decide)) (fun _ => zp2_ifr (fun q => absurd q (by decide)) (fun _ => zp2_ckr ?_)))))
      refine zp2_ckr (zp2_bvr (fun t g => zp2_some ?_))
      subst f
      subst g
      refine ⟨h.upd hI [16] (zQ.wi zQ.rf rfl) (zQ.wi zQ.rf rfl) rfl (zAl1 ⟨?_, zrg_w (by decide) (by decide) (zr_or (lo := 0) (hi := 65535) 16 (zr_andr (lo := 0) (hi := 65280) (zr_c (lo := 65280) (hi := 65280) (by decide)) (by decide)) hv (by decide))⟩), zQ.wi zQ.rf rfl, zQ.wi zQ.rf rfl⟩
      show (μ.1 3 16 &&& 65280) ||| y = (σ.1 36 16 &&& 65280) ||| y
      rw [h.eq (by decide)]
    · refine zp2_ifl (fun q => absurd q (by decide)) (fun _ => zp2_ifl (fun _ => ?_) (fun q => absurd rfl q))
      refine zp2_bul (P := fun r => r = zsi σ 36 17 ((σ.1 36 17 &&& 65280) ||| y)) ?_ (fun s f => ?_)
      · refine zpc_if (fun q => absurd (a.symm.trans q) (by decide)) (fun _ => zpc_if (fun q => absurd q (by decide)) (fun _ => zpc_ck ?_))
        rw [show zgi σ 7 4 = 17 from a]
        exact zpc_ck (zpc_bv (fun s f => zpc_some f))
      rw [show zgi μ 0 31 = 17 from b]
      refine zp2_ifr (fun q => absurd q (by decide)) (fun _ => zp2_ifr (fun q => absurd q (by decide)) (fun _ => zp2_ifr (fun q => absurd q (by decide)) (fun _ => zp2_ifr (fun q => absurd q (by decide)) (fun _ => zp2_ifr (fun q => absurd q (by decide)) (fun _ => zp2_ckr ?_)))))
      refine zp2_ckr (zp2_bvr (fun t g => zp2_some ?_))
      subst f
      subst g
      refine ⟨h.upd hI [17] (zQ.wi zQ.rf rfl) (zQ.wi zQ.rf rfl) rfl (zAl1 ⟨?_, zrg_w (by decide) (by decide) (zr_or (lo := 0) (hi := 65535) 16 (zr_andr (lo := 0) (hi := 65280) (zr_c (lo := 65280) (hi := 65280) (by decide)) (by decide)) hv (by decide))⟩), zQ.wi zQ.rf rfl, zQ.wi zQ.rf rfl⟩
      show (μ.1 3 17 &&& 65280) ||| y = (σ.1 36 17 &&& 65280) ||| y
      rw [h.eq (by decide)]
  rcases zr_hd (c := 6) hk rfl with e1 | hk
  · subst e1
    refine zp2_ifl (fun q => absurd q (by decide)) (fun _ => zp2_ifl (fun q => absurd q (by decide)) (fun _ => zp2_ifl (fun _ => zp2_ifr (fun _ => ?_) (fun q => absurd rfl q)) (fun q => absurd rfl q)))
    refine zp2_bir (p_m h hp) (fun t w et => ?_)
    cases et
    refine zp2_wr h.1 rfl (z_m255 hv) hv (fun s t hm q1 q2 => zp2_some ⟨h.fin hI [] hm (q1.mono rfl rfl) (q2.mono rfl rfl) rfl zAl0 (h.2.2.1.of (q1.1 7 4 rfl) (q2.1 0 31 rfl)), q1.mono rfl rfl, q2.mono rfl rfl⟩)
  rcases zr_hd (c := 7) hk rfl with e1 | hk
  · subst e1
    refine zp2_ifl (fun q => absurd q (by decide)) (fun _ => zp2_ifl (fun q => absurd q (by decide)) (fun _ => zp2_ifl (fun q => absurd q (by decide)) (fun _ => zp2_ifl (fun _ => zp2_ckl ?_) (fun q => absurd rfl q))))
    refine zp2_ifr (fun q => absurd q (by decide)) (fun _ => zp2_ifr (fun _ => zp2_ckr ?_) (fun q => absurd rfl q))
    refine zp2_bvl (fun s f => zp2_bvr (fun t g => zp2_some ?_))
    subst f
    subst g
    exact ⟨h.upd hI [0] (zQ.wi zQ.rf rfl) (zQ.wi zQ.rf rfl) rfl (zAl1 ⟨rfl, zrg_b (Or.inl (by decide)) hv⟩), zQ.wi zQ.rf rfl, zQ.wi zQ.rf rfl⟩
  exact zr_no9 hk (by decide)
end ZT4
end ZJN8
section ZJN9
/-! ARITHMETIC -/
def bc (v : Int32) : Bool := decide (¬ v = 0)
def d7 (x : Int32) : Bool := bc (if x &&& 128 = 0 then 0 else 1)
def d6 (x : Int32) : Bool := bc (if x = 0 then 1 else 0)
def d5 (x : Int32) : Bool := bc (if x &&& 32 = 0 then 0 else 1)
def d3 (x : Int32) : Bool := bc (if x &&& 8 = 0 then 0 else 1)
theorem fl_xy {b7 b6 b5 b4 b3 b2 b1 b0 : Bool} {x : Int32} : gxy (zfl b7 b6 b5 b4 b3 b2 b1 b0) x = zfl b7 b6 (d5 x) b4 (d3 x) b2 b1 b0 := by
  unfold gxy
  rw [pt_5, pt_3]
  rfl
theorem fl_by {b7 b6 b5 b4 b3 b2 b1 b0 : Bool} {x : Int32} : gby (zfl b7 b6 b5 b4 b3 b2 b1 b0) x = zfl (d7 x) (d6 x) (d5 x) b4 (d3 x) b2 b1 b0 := by
  unfold gby
  rw [pt_7, pt_6, fl_xy]
  rfl
theorem zfl_r : ∀ b7 b6 b5 b4 b3 b2 b1 b0 : Bool, zr 0 255 (zfl b7 b6 b5 b4 b3 b2 b1 b0) := by
  unfold zr
  decide
section ZFL2
variable {μ σ : zSt} {f b v x : Int32}
theorem p_put' : zpc (fX12_put μ b v) (fun r => r = zsi μ 3 1 (pt (μ.1 3 1) b v)) := by
  have h := p_put (μ := μ) (f := μ.1 3 1) (b := b) (v := v)
  rw [zsi_own] at h
  exact h
theorem p_xy' : zpc (fX12_xy μ x) (fun r => r = zsi μ 3 1 (gxy (μ.1 3 1) x)) := by
  have h := p_xy (μ := μ) (f := μ.1 3 1) (x := x)
  rw [zsi_own] at h
  exact h
theorem p_by' : zpc (fX12_by μ x) (fun r => r = zsi μ 3 1 (gby (μ.1 3 1) x)) := by
  have h := p_by (μ := μ) (f := μ.1 3 1) (x := x)
  rw [zsi_own] at h
  exact h
theorem zpc_j3 {α : Type} {c c2 : Prop} {d : Decidable c} {d2 : Decidable c2} {K : Int32 → Option α} {Q : α → Prop} (h : ∀ v, v = @ite _ c d 1 (@ite _ c2 d2 0 1) → zpc (K v) Q) : zpc (@ite _ c d (K 1) (@ite _ c2 d2 (K 0) (K 1))) Q := by
  by_cases q : c
  · rw [if_pos q]; exact h 1 (if_pos q).symm
  · rw [if_neg q]
    by_cases q2 : c2
    · rw [if_pos q2]; exact h 0 (by rw [if_neg q, if_pos q2])
    · rw [if_neg q2]; exact h 1 (by rw [if_neg q, if_neg q2])
/-! the reference: and, xor, or -/
theorem p_logM {y A : Int32} (hy : y = 4 ∨ ¬ y = 4) : zpc (fX12_does_48 μ y A 0) (fun r => r = zsi (zsi μ 3 0 A) 3 1 (pt (pt (pt (pt (gby (μ.1 3 1) A) 4 (if y = 4 then 1 else 0)) 2 (gev A)) 1 0) 0 0)) := by
  unfold fX12_does_48
  refine zpc_ck (zpc_bv (fun s es => zpc_ck (zpc_bu p_by' (fun t et => ?_))))
  have eA : zgi s 3 (0 : Int32).toNatClampNeg = A := by subst es; rfl
  have eF : s.1 3 1 = μ.1 3 1 := by subst es; rfl
  have es' : s = zsi μ 3 0 A := es
  rw [eA, eF] at et
  subst et
  refine zpc_j (K := fun v => fX12_does_71 (zsi s 3 1 (gby (μ.1 3 1) A)) v 4) (a := 1) (b := 0) (fun v ev => ?_)
  unfold fX12_does_71
  refine zpc_bu p_put (fun t et => ?_)
  subst et
  refine zpc_ck (zpc_bi p_even (fun t w et => ?_))
  cases et
  refine zpc_bu p_put (fun t et => ?_)
  subst et
  refine zpc_bu p_put (fun t et => ?_)
  subst et
  refine zpc_bu p_put (fun t et => zpc_some ?_)
  rw [et, ev]
  have g : zgi (zsi s 3 1 (pt (gby (μ.1 3 1) A) 4 (if y = 4 then 1 else 0))) 3 (0 : Int32).toNatClampNeg = A := eA
  rw [g, es']
end ZFL2
/-! the reference: sums and differences -/
def hA (a b c : Int32) : Int32 := if ((a &&& 15) + (b &&& 15)) + c ≤ 15 then 0 else 1
def hS (a b c : Int32) : Int32 := if 0 ≤ ((a &&& 15) - (b &&& 15)) - c then 0 else 1
def cX (v : Int32) : Int32 := if v < 0 then 1 else if v ≤ 255 then 0 else 1
def sg (v : Int32) : Int32 := if 128 ≤ v then v - 256 else v
def oX (s : Int32) : Int32 := if s < (-128) then 1 else if s ≤ 127 then 0 else 1
def mF (f h c w o n : Int32) : Int32 := pt (pt (gby (pt (pt f 4 h) 0 c) w) 2 o) 1 n
theorem fl_mF {f h c w o n : Int32} (hf : zr 0 255 f) : mF f h c w o n = zfl (d7 w) (d6 w) (d5 w) (bc h) (d3 w) (bc o) (bc n) (bc c) := by
  unfold mF
  rw [fl_of hf, pt_4, pt_0, fl_by, pt_2, pt_1]
  rfl
section ZAR
variable {μ σ : zSt} {a b c y : Int32}
theorem p_addM (h7 : ¬ y = 7) : zpc (fX12_does_154 μ y b a c 1 ((a + b) + c)) (fun r => r = zsi (zsi μ 3 1 (mF (μ.1 3 1) (hA a b c) (cX ((a + b) + c)) (((a + b) + c) &&& 255) (oX ((sg a + sg b) + c)) 0)) 3 0 (((a + b) + c) &&& 255)) := by
  unfold fX12_does_154
  refine zpc_if (fun q => absurd q (by decide)) (fun _ => ?_)
  refine zpc_j (K := fun h => fX12_does_208 μ y b a c 1 ((a + b) + c) h 4) (a := 0) (b := 1) (fun h eh => ?_)
  have eh : h = hA a b c := eh
  unfold fX12_does_208
  refine zpc_bu p_put' (fun t et => ?_)
  subst et
  unfold fX12_does_226
  refine zpc_j3 (K := fun w => fX12_does_231 (zsi μ 3 1 (pt (μ.1 3 1) 4 h)) y b a c 1 ((a + b) + c) w 0) (fun w ew => ?_)
  have ew : w = cX ((a + b) + c) := ew
  unfold fX12_does_231
  refine zpc_bu p_put (fun t et => ?_)
  subst et
  refine zpc_if (fun q => absurd q (by decide)) (fun _ => ?_)
  refine zpc_bi p_signed (fun t u et => ?_)
  cases et
  refine zpc_bi p_signed (fun t u et => ?_)
  cases et
  unfold fX12_does_266
  refine zpc_bu p_by (fun t et => ?_)
  subst et
  unfold fX12_does_294
  refine zpc_j3 (K := fun u => fX12_does_299 (zsi μ 3 1 (gby (pt (pt (μ.1 3 1) 4 h) 0 w) (((a + b) + c) &&& 255))) y b 1 ((a + b) + c) u 2) (fun u eu => ?_)
  have eu : u = oX ((sg a + sg b) + c) := eu
  unfold fX12_does_299
  refine zpc_bu p_put (fun t et => ?_)
  subst et
  refine zpc_if (fun q => absurd q (by decide)) (fun _ => ?_)
  unfold fX12_does_314 fX12_does_343
  refine zpc_bu p_put (fun t et => ?_)
  subst et
  refine zpc_if (fun q => absurd q h7) (fun _ => zpc_ck (zpc_bv (fun t et => zpc_some ?_)))
  rw [et, eh, ew, eu]
  rfl
theorem p_subM (h7 : ¬ y = 7) : zpc (fX12_does_154 μ y b a c 0 ((a - b) - c)) (fun r => r = zsi (zsi μ 3 1 (mF (μ.1 3 1) (hS a b c) (cX ((a - b) - c)) (((a - b) - c) &&& 255) (oX ((sg a - sg b) - c)) 1)) 3 0 (((a - b) - c) &&& 255)) := by
  unfold fX12_does_154
  refine zpc_if (fun _ => ?_) (fun q => absurd rfl q)
  refine zpc_j (K := fun h => fX12_does_208 μ y b a c 0 ((a - b) - c) h 4) (a := 0) (b := 1) (fun h eh => ?_)
  have eh : h = hS a b c := eh
  unfold fX12_does_208
  refine zpc_bu p_put' (fun t et => ?_)
  subst et
  unfold fX12_does_226
  refine zpc_j3 (K := fun w => fX12_does_231 (zsi μ 3 1 (pt (μ.1 3 1) 4 h)) y b a c 0 ((a - b) - c) w 0) (fun w ew => ?_)
  have ew : w = cX ((a - b) - c) := ew
  unfold fX12_does_231
  refine zpc_bu p_put (fun t et => ?_)
  subst et
  refine zpc_if (fun _ => ?_) (fun q => absurd rfl q)
  refine zpc_bi p_signed (fun t u et => ?_)
  cases et
  refine zpc_bi p_signed (fun t u et => ?_)
  cases et
  unfold fX12_does_266
  refine zpc_bu p_by (fun t et => ?_)
  subst et
  unfold fX12_does_294
  refine zpc_j3 (K := fun u => fX12_does_299 (zsi μ 3 1 (gby (pt (pt (μ.1 3 1) 4 h) 0 w) (((a - b) - c) &&& 255))) y b 0 ((a - b) - c) u 2) (fun u eu => ?_)
  have eu : u = oX ((sg a - sg b) - c) := eu
  unfold fX12_does_299
  refine zpc_bu p_put (fun t et => ?_)
  subst et
  refine zpc_if (fun _ => ?_) (fun q => absurd rfl q)
  unfold fX12_does_314 fX12_does_343
  refine zpc_bu p_put (fun t et => ?_)
  subst et
  refine zpc_if (fun q => absurd q h7) (fun _ => zpc_ck (zpc_bv (fun t et => zpc_some ?_)))
  rw [et, eh, ew, eu]
  rfl
theorem p_subM7 (h7 : y = 7) : zpc (fX12_does_154 μ y b a c 0 ((a - b) - c)) (fun r => r = zsi μ 3 1 (gxy (mF (μ.1 3 1) (hS a b c) (cX ((a - b) - c)) (((a - b) - c) &&& 255) (oX ((sg a - sg b) - c)) 1) b)) := by
  unfold fX12_does_154
  refine zpc_if (fun _ => ?_) (fun q => absurd rfl q)
  refine zpc_j (K := fun h => fX12_does_208 μ y b a c 0 ((a - b) - c) h 4) (a := 0) (b := 1) (fun h eh => ?_)
  have eh : h = hS a b c := eh
  unfold fX12_does_208
  refine zpc_bu p_put' (fun t et => ?_)
  subst et
  unfold fX12_does_226
  refine zpc_j3 (K := fun w => fX12_does_231 (zsi μ 3 1 (pt (μ.1 3 1) 4 h)) y b a c 0 ((a - b) - c) w 0) (fun w ew => ?_)
  have ew : w = cX ((a - b) - c) := ew
  unfold fX12_does_231
  refine zpc_bu p_put (fun t et => ?_)
  subst et
  refine zpc_if (fun _ => ?_) (fun q => absurd rfl q)
  refine zpc_bi p_signed (fun t u et => ?_)
  cases et
  refine zpc_bi p_signed (fun t u et => ?_)
  cases et
  unfold fX12_does_266
  refine zpc_bu p_by (fun t et => ?_)
  subst et
  unfold fX12_does_294
  refine zpc_j3 (K := fun u => fX12_does_299 (zsi μ 3 1 (gby (pt (pt (μ.1 3 1) 4 h) 0 w) (((a - b) - c) &&& 255))) y b 0 ((a - b) - c) u 2) (fun u eu => ?_)
  have eu : u = oX ((sg a - sg b) - c) := eu
  unfold fX12_does_299
  refine zpc_bu p_put (fun t et => ?_)
  subst et
  refine zpc_if (fun _ => ?_) (fun q => absurd rfl q)
  unfold fX12_does_314 fX12_does_343
  refine zpc_bu p_put (fun t et => ?_)
  subst et
  refine zpc_if (fun _ => zpc_bu p_xy (fun t et => zpc_some ?_)) (fun q => absurd h7 q)
  rw [et, eh, ew, eu]
  rfl
/-! the class -/
def csum (a b c : Int32) : Int32 := ((cby (((a + b) + c) &&& 255) ||| (((a ^^^ b) ^^^ (((a + b) + c) &&& 255)) &&& 16)) ||| (if (((a ^^^ b) ^^^ (-1)) &&& (a ^^^ (((a + b) + c) &&& 255))) &&& 128 = 0 then 0 else 4)) ||| (((a + b) + c) >>> ((8 : Int32) &&& 31))
def cdif (a b c : Int32) : Int32 := (((cby (((a - b) - c) &&& 255) ||| (((a ^^^ b) ^^^ (((a - b) - c) &&& 255)) &&& 16)) ||| (if ((a ^^^ b) &&& (a ^^^ (((a - b) - c) &&& 255))) &&& 128 = 0 then 0 else 4)) ||| 2) ||| (if 0 ≤ (a - b) - c then 0 else 1)
theorem p_sumC : zpc (fX5_sum σ a b c) (fun r => r = (zsi σ 36 1 (csum a b c), ((a + b) + c) &&& 255)) := by
  unfold fX5_sum fX5_sum_61 csum
  refine zpc_bv (fun v ev => zpc_bv (fun w ew => zpc_bv (fun u eu => zpc_bi p_byC (fun t x et => ?_))))
  cases et
  subst ev
  subst ew
  subst eu
  refine zpc_if (fun q => zpc_ck (zpc_bv (fun t et => zpc_some ?_))) (fun q => zpc_ck (zpc_bv (fun t et => zpc_some ?_)))
  · rw [et, if_pos q]; rfl
  · rw [et, if_neg q]; rfl
theorem p_difC : zpc (fX5_difference σ a b c) (fun r => r = (zsi σ 36 1 (cdif a b c), ((a - b) - c) &&& 255)) := by
  unfold fX5_difference fX5_difference_59 fX5_difference_72 cdif
  refine zpc_bv (fun v ev => zpc_bv (fun w ew => zpc_bv (fun u eu => zpc_bi p_byC (fun t x et => ?_))))
  cases et
  subst ev
  subst ew
  subst eu
  refine zpc_if (fun q => zpc_if (fun q2 => zpc_ck (zpc_bv (fun t et => zpc_some ?_))) (fun q2 => zpc_ck (zpc_bv (fun t et => zpc_some ?_)))) (fun q => zpc_if (fun q2 => zpc_ck (zpc_bv (fun t et => zpc_some ?_))) (fun q2 => zpc_ck (zpc_bv (fun t et => zpc_some ?_))))
  · rw [et, if_pos q, if_pos q2]; rfl
  · rw [et, if_pos q, if_neg q2]; rfl
  · rw [et, if_neg q, if_pos q2]; rfl
  · rw [et, if_neg q, if_neg q2]; rfl
end ZAR
/-! the same flags -/
theorem z_xad {x y m : Int32} : (x ^^^ y) &&& m = (x &&& m) ^^^ (y &&& m) := by
  refine Int32.toBitVec_inj.1 ?_
  rw [Int32.toBitVec_and, Int32.toBitVec_xor, Int32.toBitVec_xor, Int32.toBitVec_and, Int32.toBitVec_and]
  refine BitVec.eq_of_getLsbD_eq (fun i hi => ?_)
  rw [BitVec.getLsbD_and, BitVec.getLsbD_xor, BitVec.getLsbD_xor, BitVec.getLsbD_and, BitVec.getLsbD_and]
  cases x.toBitVec.getLsbD i <;> cases y.toBitVec.getLsbD i <;> cases m.toBitVec.getLsbD i <;> rfl
theorem z_sm31 (a b c : Int32) : ((a + b) + c) &&& 31 = (((a &&& 31) + (b &&& 31)) + c) &&& 31 := by
  refine Int32.toBitVec_inj.1 ?_
  rw [Int32.toBitVec_and, Int32.toBitVec_and, Int32.toBitVec_add, Int32.toBitVec_add, Int32.toBitVec_add, Int32.toBitVec_add, Int32.toBitVec_and, Int32.toBitVec_and]
  refine BitVec.eq_of_toNat_eq ?_
  rw [BitVec.toNat_and, BitVec.toNat_and, BitVec.toNat_add, BitVec.toNat_add, BitVec.toNat_add, BitVec.toNat_add, BitVec.toNat_and, BitVec.toNat_and]
  rw [show (31 : Int32).toBitVec.toNat = 2 ^ 5 - 1 from rfl, Nat.and_two_pow_sub_one_eq_mod, Nat.and_two_pow_sub_one_eq_mod, Nat.and_two_pow_sub_one_eq_mod, Nat.and_two_pow_sub_one_eq_mod]
  omega
theorem z_dm31 (a b c : Int32) : ((a - b) - c) &&& 31 = (((a &&& 31) - (b &&& 31)) - c) &&& 31 := by
  refine Int32.toBitVec_inj.1 ?_
  rw [Int32.toBitVec_and, Int32.toBitVec_and, Int32.toBitVec_sub, Int32.toBitVec_sub, Int32.toBitVec_sub, Int32.toBitVec_sub, Int32.toBitVec_and, Int32.toBitVec_and]
  refine BitVec.eq_of_toNat_eq ?_
  rw [BitVec.toNat_and, BitVec.toNat_and, BitVec.toNat_sub, BitVec.toNat_sub, BitVec.toNat_sub, BitVec.toNat_sub, BitVec.toNat_and, BitVec.toNat_and]
  rw [show (31 : Int32).toBitVec.toNat = 2 ^ 5 - 1 from rfl, Nat.and_two_pow_sub_one_eq_mod, Nat.and_two_pow_sub_one_eq_mod, Nat.and_two_pow_sub_one_eq_mod, Nat.and_two_pow_sub_one_eq_mod]
  have := a.toBitVec.isLt
  have := b.toBitVec.isLt
  have := c.toBitVec.isLt
  omega
theorem z_r31 (x : Int32) : zr 0 31 (x &&& 31) := zr_andr (lo := 0) (hi := 31) (zr_c (lo := 31) (hi := 31) (by decide)) (by decide)
theorem z_fin32 {x : Int32} (h : zr 0 31 x) : ∃ i : Fin 32, x = Int32.ofNat i.val := by
  obtain ⟨h0, h1⟩ := h
  obtain ⟨i, hi⟩ : ∃ i : Nat, x.toInt = i := ⟨x.toInt.toNat, by omega⟩
  exact ⟨⟨i, by omega⟩, z_ofN hi⟩
theorem z_bit1 {c : Int32} (h : zr 0 1 c) : ∃ i : Fin 2, c = Int32.ofNat i.val := by
  obtain ⟨h0, h1⟩ := h
  obtain ⟨i, hi⟩ : ∃ i : Nat, c.toInt = i := ⟨c.toInt.toNat, by omega⟩
  exact ⟨⟨i, by omega⟩, z_ofN hi⟩
theorem v_hAf : ∀ a : Fin 32, ∀ b : Fin 32, ∀ c : Fin 2, (((Int32.ofNat a.val &&& 16) ^^^ (Int32.ofNat b.val &&& 16)) ^^^ ((((Int32.ofNat a.val + Int32.ofNat b.val) + Int32.ofNat c.val) &&& 31) &&& 16)) = bif bc (hA (Int32.ofNat a.val) (Int32.ofNat b.val) (Int32.ofNat c.val)) then 16 else 0 := by decide +kernel
theorem v_hSf : ∀ a : Fin 32, ∀ b : Fin 32, ∀ c : Fin 2, (((Int32.ofNat a.val &&& 16) ^^^ (Int32.ofNat b.val &&& 16)) ^^^ ((((Int32.ofNat a.val - Int32.ofNat b.val) - Int32.ofNat c.val) &&& 31) &&& 16)) = bif bc (hS (Int32.ofNat a.val) (Int32.ofNat b.val) (Int32.ofNat c.val)) then 16 else 0 := by decide +kernel
theorem z_3116 (x : Int32) : x &&& 16 = (x &&& 31) &&& 16 := by rw [Int32.and_assoc, show (31 : Int32) &&& 16 = 16 by decide]
theorem z_3115 (x : Int32) : x &&& 15 = (x &&& 31) &&& 15 := by rw [Int32.and_assoc, show (31 : Int32) &&& 15 = 15 by decide]
theorem z_25516 (x : Int32) : (x &&& 255) &&& 16 = (x &&& 31) &&& 16 := by rw [Int32.and_assoc, Int32.and_assoc, show (31 : Int32) &&& 16 = 16 by decide, show (255 : Int32) &&& 16 = 16 by decide]
theorem v_hA {a b c : Int32} (hc : zr 0 1 c) : ((a ^^^ b) ^^^ (((a + b) + c) &&& 255)) &&& 16 = bif bc (hA a b c) then 16 else 0 := by
  have e : hA a b c = hA (a &&& 31) (b &&& 31) c := by unfold hA; rw [z_3115 a, z_3115 b]
  rw [e, z_xad, z_xad, z_25516, z_sm31, z_3116 a, z_3116 b]
  obtain ⟨i, ei⟩ := z_fin32 (z_r31 a)
  obtain ⟨j, ej⟩ := z_fin32 (z_r31 b)
  obtain ⟨k, ek⟩ := z_bit1 hc
  rw [ei, ej, ek]
  exact v_hAf i j k
theorem v_hS {a b c : Int32} (hc : zr 0 1 c) : ((a ^^^ b) ^^^ (((a - b) - c) &&& 255)) &&& 16 = bif bc (hS a b c) then 16 else 0 := by
  have e : hS a b c = hS (a &&& 31) (b &&& 31) c := by unfold hS; rw [z_3115 a, z_3115 b]
  rw [e, z_xad, z_xad, z_25516, z_dm31, z_3116 a, z_3116 b]
  obtain ⟨i, ei⟩ := z_fin32 (z_r31 a)
  obtain ⟨j, ej⟩ := z_fin32 (z_r31 b)
  obtain ⟨k, ek⟩ := z_bit1 hc
  rw [ei, ej, ek]
  exact v_hSf i j k
theorem v_b7f : ∀ i : Fin 256, (Int32.ofNat i.val &&& 128 = 0 ∧ Int32.ofNat i.val < 128) ∨ (Int32.ofNat i.val &&& 128 = 128 ∧ ¬ Int32.ofNat i.val < 128) := by decide +kernel
theorem z_b7c {a : Int32} (h : zr 0 255 a) : (a &&& 128 = 0 ∧ a.toInt < 128 ∧ sg a = a) ∨ (a &&& 128 = 128 ∧ 128 ≤ a.toInt ∧ sg a = a - 256) := by
  have c : (128 : Int32).toInt = 128 := rfl
  have g : (a &&& 128 = 0 ∧ a < 128) ∨ (a &&& 128 = 128 ∧ ¬ a < 128) := by
    obtain ⟨i, e⟩ := z_byteF h
    rw [e]
    exact v_b7f i
  rcases g with ⟨x, y⟩ | ⟨x, y⟩
  · have y1 := Int32.lt_iff_toInt_lt.mp y
    exact Or.inl ⟨x, by omega, by unfold sg; rw [if_neg (fun q => by have := Int32.le_iff_toInt_le.mp q; omega)]⟩
  · have y1 := Int32.le_iff_toInt_le.mp (z_nlt y)
    exact Or.inr ⟨x, by omega, by unfold sg; rw [if_pos (z_nlt y)]⟩
theorem z_w8 {v : Int32} {k : Int} (e : v.toInt = k) (h : -256 ≤ k ∧ k ≤ 511) : (v &&& 255).toInt = k % 256 := by
  have e1 : (v &&& 255) = ((v + 256) &&& 255) := by
    refine Int32.toBitVec_inj.1 ?_
    rw [Int32.toBitVec_and, Int32.toBitVec_and, Int32.toBitVec_add]
    refine BitVec.eq_of_toNat_eq ?_
    rw [BitVec.toNat_and, BitVec.toNat_and, BitVec.toNat_add]
    rw [show (255 : Int32).toBitVec.toNat = 2 ^ 8 - 1 from rfl, show (256 : Int32).toBitVec.toNat = 256 from rfl, Nat.and_two_pow_sub_one_eq_mod, Nat.and_two_pow_sub_one_eq_mod]
    omega
  have c : (256 : Int32).toInt = 256 := rfl
  have t : (v + 256).toInt = v.toInt + (256 : Int32).toInt := z_tadd (a := -256) (b := 511) ⟨by omega, by omega⟩ (zr_c (lo := 256) (hi := 256) (x := 256) (by decide)) (by decide)
  rw [e1, z_mask (k := 8) (by omega) rfl (by decide), t, e, c]
  show (k + 256) % 256 = k % 256
  omega
theorem oX_v {s : Int32} {k : Int} (e : s.toInt = k) : ((k < -128 ∨ 127 < k) ∧ oX s = 1) ∨ ((-128 ≤ k ∧ k ≤ 127) ∧ oX s = 0) := by
  have c1 : (-128 : Int32).toInt = -128 := rfl
  have c2 : (127 : Int32).toInt = 127 := rfl
  unfold oX
  by_cases q : s < (-128)
  · have q1 := Int32.lt_iff_toInt_lt.mp q
    exact Or.inl ⟨Or.inl (by omega), by rw [if_pos q]⟩
  · have q1 := Int32.le_iff_toInt_le.mp (z_nlt q)
    rw [if_neg q]
    by_cases r : s ≤ 127
    · have r1 := Int32.le_iff_toInt_le.mp r
      exact Or.inr ⟨⟨by omega, by omega⟩, by rw [if_pos r]⟩
    · have r1 := Int32.lt_iff_toInt_lt.mp (z_nle r)
      exact Or.inl ⟨Or.inr (by omega), by rw [if_neg r]⟩
theorem z_rs {a : Int32} (h : zr 0 255 a) : zr (-128) 127 (sg a) ∧ ((a &&& 128 = 0 ∧ (sg a).toInt = a.toInt ∧ a.toInt < 128) ∨ (a &&& 128 = 128 ∧ (sg a).toInt = a.toInt - 256 ∧ 128 ≤ a.toInt)) := by
  have c : (256 : Int32).toInt = 256 := rfl
  have h0 := h.1
  have h1 := h.2
  rcases z_b7c h with ⟨x, y, z⟩ | ⟨x, y, z⟩
  · rw [z]; exact ⟨⟨by omega, by omega⟩, Or.inl ⟨x, rfl, y⟩⟩
  · have t : (a - 256).toInt = a.toInt - (256 : Int32).toInt := z_tsub h (zr_c (lo := 256) (hi := 256) (by decide)) (by decide)
    rw [z]; exact ⟨⟨by omega, by omega⟩, Or.inr ⟨x, by omega, y⟩⟩
theorem v_oA {a b c : Int32} (ha : zr 0 255 a) (hb : zr 0 255 b) (hc : zr 0 1 c) : (if (((a ^^^ b) ^^^ (-1)) &&& (a ^^^ (((a + b) + c) &&& 255))) &&& 128 = 0 then (0 : Int32) else 4) = bif bc (oX ((sg a + sg b) + c)) then 4 else 0 := by
  have a0 := ha.1
  have a1 := ha.2
  have b0 := hb.1
  have b1 := hb.2
  have c0 := hc.1
  have c1 := hc.2
  have t1 := z_tadd ha hb (by decide)
  have t2 := z_tadd (zr_add (lo := 0) (hi := 510) ha hb (by decide)) hc (by decide)
  have hw := z_w8 (v := (a + b) + c) rfl (by omega)
  obtain ⟨ra, ka⟩ := z_rs ha
  obtain ⟨rb, kb⟩ := z_rs hb
  have u1 := z_tadd ra rb (by decide)
  have u2 := z_tadd (zr_add (lo := -256) (hi := 254) ra rb (by decide)) hc (by decide)
  have ov := oX_v (s := (sg a + sg b) + c) rfl
  obtain ⟨_, kw⟩ := z_rs (z_byte ((a + b) + c))
  have d : (((a ^^^ b) ^^^ (-1)) &&& (a ^^^ (((a + b) + c) &&& 255))) &&& 128 = ((((a &&& 128) ^^^ (b &&& 128)) ^^^ ((-1) &&& 128)) &&& ((a &&& 128) ^^^ ((((a + b) + c) &&& 255) &&& 128))) := by
    rw [Int32.and_assoc, show (a ^^^ (((a + b) + c) &&& 255)) &&& 128 = (a &&& 128) ^^^ ((((a + b) + c) &&& 255) &&& 128) from z_xad]
    have k : ∀ x y : Int32, x &&& ((a &&& 128) ^^^ (y &&& 128)) = (x &&& 128) &&& ((a &&& 128) ^^^ (y &&& 128)) := fun x y => by
      rw [← z_xad, Int32.and_assoc x 128, Int32.and_comm 128, Int32.and_assoc, show (128 : Int32) &&& 128 = 128 by decide]
    rw [k, z_xad, z_xad (x := a) (y := b)]
  rw [d]
  rcases ka with ⟨p1, p2, p3⟩ | ⟨p1, p2, p3⟩ <;> rcases kb with ⟨q1, q2, q3⟩ | ⟨q1, q2, q3⟩ <;> rcases kw with ⟨r1, r2, r3⟩ | ⟨r1, r2, r3⟩ <;> rw [p1, q1, r1] <;> rcases ov with ⟨o1, o2⟩ | ⟨o1, o2⟩ <;> rw [o2] <;> first | decide | (exfalso; omega)
theorem v_oS {a b c : Int32} (ha : zr 0 255 a) (hb : zr 0 255 b) (hc : zr 0 1 c) : (if ((a ^^^ b) &&& (a ^^^ (((a - b) - c) &&& 255))) &&& 128 = 0 then (0 : Int32) else 4) = bif bc (oX ((sg a - sg b) - c)) then 4 else 0 := by
  have a0 := ha.1
  have a1 := ha.2
  have b0 := hb.1
  have b1 := hb.2
  have c0 := hc.1
  have c1 := hc.2
  have t1 := z_tsub ha hb (by decide)
  have t2 := z_tsub (zr_sub (lo := -255) (hi := 255) ha hb (by decide)) hc (by decide)
  have hw := z_w8 (v := (a - b) - c) rfl (by omega)
  obtain ⟨ra, ka⟩ := z_rs ha
  obtain ⟨rb, kb⟩ := z_rs hb
  have u1 := z_tsub ra rb (by decide)
  have u2 := z_tsub (zr_sub (lo := -255) (hi := 255) ra rb (by decide)) hc (by decide)
  have ov := oX_v (s := (sg a - sg b) - c) rfl
  obtain ⟨_, kw⟩ := z_rs (z_byte ((a - b) - c))
  have d : ((a ^^^ b) &&& (a ^^^ (((a - b) - c) &&& 255))) &&& 128 = ((a &&& 128) ^^^ (b &&& 128)) &&& ((a &&& 128) ^^^ ((((a - b) - c) &&& 255) &&& 128)) := by
    rw [Int32.and_assoc, show (a ^^^ (((a - b) - c) &&& 255)) &&& 128 = (a &&& 128) ^^^ ((((a - b) - c) &&& 255) &&& 128) from z_xad]
    have k : ∀ x y : Int32, x &&& ((a &&& 128) ^^^ (y &&& 128)) = (x &&& 128) &&& ((a &&& 128) ^^^ (y &&& 128)) := fun x y => by
      rw [← z_xad, Int32.and_assoc x 128, Int32.and_comm 128, Int32.and_assoc, show (128 : Int32) &&& 128 = 128 by decide]
    rw [k, z_xad]
  rw [d]
  rcases ka with ⟨p1, p2, p3⟩ | ⟨p1, p2, p3⟩ <;> rcases kb with ⟨q1, q2, q3⟩ | ⟨q1, q2, q3⟩ <;> rcases kw with ⟨r1, r2, r3⟩ | ⟨r1, r2, r3⟩ <;> rw [p1, q1, r1] <;> rcases ov with ⟨o1, o2⟩ | ⟨o1, o2⟩ <;> rw [o2] <;> first | decide | (exfalso; omega)
theorem v_cbyf : ∀ i : Fin 256, cby (Int32.ofNat i.val) = zfl (d7 (Int32.ofNat i.val)) (d6 (Int32.ofNat i.val)) (d5 (Int32.ofNat i.val)) false (d3 (Int32.ofNat i.val)) false false false := by decide +kernel
theorem v_cby {w : Int32} (h : zr 0 255 w) : cby w = zfl (d7 w) (d6 w) (d5 w) false (d3 w) false false false := by
  obtain ⟨i, e⟩ := z_byteF h
  rw [e]
  exact v_cbyf i
theorem v_cAf : ∀ i : Fin 512, (Int32.ofNat i.val) >>> ((8 : Int32) &&& 31) = bif bc (cX (Int32.ofNat i.val)) then 1 else 0 := by decide +kernel
theorem v_cS {v : Int32} (h : zr (-256) 255 v) : (if 0 ≤ v then (0 : Int32) else 1) = bif bc (cX v) then 1 else 0 := by
  have c0 : (0 : Int32).toInt = 0 := rfl
  have c1 : (255 : Int32).toInt = 255 := rfl
  have h1 := h.2
  unfold cX
  by_cases q : v < 0
  · have q1 := Int32.lt_iff_toInt_lt.mp q
    rw [if_pos q, if_neg (fun r => by have := Int32.le_iff_toInt_le.mp r; omega)]
    rfl
  · rw [if_neg q, if_pos (z_nlt q), if_pos (Int32.le_iff_toInt_le.mpr (by omega))]
    rfl
theorem v_sumB : ∀ b7 b6 b5 b3 h v c : Bool, zfl b7 b6 b5 h b3 v false c = ((zfl b7 b6 b5 false b3 false false false ||| (bif h then 16 else 0)) ||| (bif v then 4 else 0)) ||| (bif c then 1 else 0) := by decide
theorem v_difB : ∀ b7 b6 b5 b3 h v c : Bool, zfl b7 b6 b5 h b3 v true c = (((zfl b7 b6 b5 false b3 false false false ||| (bif h then 16 else 0)) ||| (bif v then 4 else 0)) ||| 2) ||| (bif c then 1 else 0) := by decide
end ZJN9
section ZJN10
/-! DO WITH A -/
theorem v_sum {a b c : Int32} (ha : zr 0 255 a) (hb : zr 0 255 b) (hc : zr 0 1 c) : zfl (d7 (((a + b) + c) &&& 255)) (d6 (((a + b) + c) &&& 255)) (d5 (((a + b) + c) &&& 255)) (bc (hA a b c)) (d3 (((a + b) + c) &&& 255)) (bc (oX ((sg a + sg b) + c))) false (bc (cX ((a + b) + c))) = csum a b c := by
  have r : zr 0 511 ((a + b) + c) := zr_add (lo := 0) (hi := 511) (zr_add (lo := 0) (hi := 510) ha hb (by decide)) hc (by decide)
  have e8 : ((a + b) + c) >>> ((8 : Int32) &&& 31) = bif bc (cX ((a + b) + c)) then 1 else 0 := by
    obtain ⟨r0, r1⟩ := r
    obtain ⟨i, hi⟩ : ∃ i : Nat, ((a + b) + c).toInt = i := ⟨((a + b) + c).toInt.toNat, by omega⟩
    rw [z_ofN hi]
    exact v_cAf ⟨i, by omega⟩
  unfold csum
  rw [v_sumB, v_hA hc, v_oA ha hb hc, e8, v_cby (z_byte _)]
theorem v_dif {a b c : Int32} (ha : zr 0 255 a) (hb : zr 0 255 b) (hc : zr 0 1 c) : zfl (d7 (((a - b) - c) &&& 255)) (d6 (((a - b) - c) &&& 255)) (d5 (((a - b) - c) &&& 255)) (bc (hS a b c)) (d3 (((a - b) - c) &&& 255)) (bc (oX ((sg a - sg b) - c))) true (bc (cX ((a - b) - c))) = cdif a b c := by
  have r : zr (-256) 255 ((a - b) - c) := zr_sub (lo := -256) (hi := 255) (zr_sub (lo := -255) (hi := 255) ha hb (by decide)) hc (by decide)
  unfold cdif
  rw [v_difB, v_hS hc, v_oS ha hb hc, v_cS r, v_cby (z_byte _)]
theorem v_40 : ∀ i : Fin 256, Int32.ofNat i.val &&& 40 = (bif d5 (Int32.ofNat i.val) then 32 else 0) ||| (bif d3 (Int32.ofNat i.val) then 8 else 0) := by decide +kernel
theorem v_41 : ∀ b7 b6 b5 b4 b3 b2 b1 b0 x y : Bool, ((zfl b7 b6 b5 b4 b3 b2 b1 b0) &&& (-41)) ||| ((bif x then 32 else 0) ||| (bif y then 8 else 0)) = zfl b7 b6 x b4 y b2 b1 b0 := by decide
theorem v_cp {b7 b6 b5 b4 b3 b2 b1 b0 : Bool} {b : Int32} (hb : zr 0 255 b) : ((zfl b7 b6 b5 b4 b3 b2 b1 b0) &&& (-41)) ||| (b &&& 40) = zfl b7 b6 (d5 b) b4 (d3 b) b2 b1 b0 := by
  obtain ⟨i, ei⟩ := z_byteF hb
  subst ei
  rw [v_40 i]
  exact v_41 _ _ _ _ _ _ _ _ _ _
/-- and, or, xor: parity on both sides -/
theorem v_lgf : ∀ i : Fin 256, ∀ h : Bool, zfl (d7 (Int32.ofNat i.val)) (d6 (Int32.ofNat i.val)) (d5 (Int32.ofNat i.val)) h (d3 (Int32.ofNat i.val)) (bc (gev (Int32.ofNat i.val))) false false = (cby (Int32.ofNat i.val) ||| cpar (Int32.ofNat i.val)) ||| (bif h then 16 else 0) := by decide +kernel
theorem v_lg {w : Int32} (hw : zr 0 255 w) (h : Bool) : zfl (d7 w) (d6 w) (d5 w) h (d3 w) (bc (gev w)) false false = (cby w ||| cpar w) ||| (bif h then 16 else 0) := by
  obtain ⟨i, ei⟩ := z_byteF hw
  subst ei
  exact v_lgf i h
theorem v_c0 : ∀ i : Fin 256, ((Int32.ofNat i.val) >>> ((0 : Int32) &&& 31)) &&& 1 = Int32.ofNat i.val &&& 1 := by decide +kernel
theorem z_c0 {f : Int32} (h : zr 0 255 f) : (f >>> ((0 : Int32) &&& 31)) &&& 1 = f &&& 1 := by
  obtain ⟨i, ei⟩ := z_byteF h
  subst ei
  exact v_c0 i
theorem z_r1 (x : Int32) : zr 0 1 (x &&& 1) := zr_andr (lo := 0) (hi := 1) (zr_c (lo := 1) (hi := 1) (by decide)) (by decide)
theorem z_xb {a b : Int32} (ha : zr 0 255 a) (hb : zr 0 255 b) : zr 0 255 (a ^^^ b) := by
  have e : a ^^^ b = (a ^^^ b) &&& 255 := by
    rw [z_xad, z_m255 ha, z_m255 hb]
  rw [e]
  exact z_r8 _
theorem z_ob {a b : Int32} (ha : zr 0 255 a) (hb : zr 0 255 b) : zr 0 255 (a ||| b) := zr_or (lo := 0) (hi := 255) 8 ha hb (by decide)
theorem z_ab {a b : Int32} (hb : zr 0 255 b) : zr 0 255 (a &&& b) := zr_andr (lo := 0) (hi := 255) hb (by decide)
theorem csum_r {a b c : Int32} (ha : zr 0 255 a) (hb : zr 0 255 b) (hc : zr 0 1 c) : zr 0 255 (csum a b c) := by rw [← v_sum ha hb hc]; exact zfl_r _ _ _ _ _ _ _ _
theorem cdif_r {a b c : Int32} (ha : zr 0 255 a) (hb : zr 0 255 b) (hc : zr 0 1 c) : zr 0 255 (cdif a b c) := by rw [← v_dif ha hb hc]; exact zfl_r _ _ _ _ _ _ _ _
section ZDO
variable {I : zSt → zSt → Prop} {σ μ : zSt}
theorem t_do (hI : zIoK I) (h : zTT I σ μ) (hF : zF σ μ) {y b : Int32} (hy : zr 0 7 y) (hb : zr 0 255 b) : zp2 (fX5_doWith σ y b) (fX12_does μ y b) (fun r r' => zTT I r r' ∧ zF r r' ∧ zQ [] [(36, 0, 1)] [] [] σ r ∧ zQ [] [(3, 0, 1)] [] [] μ r') := by
  have ea : μ.1 3 0 = σ.1 36 0 := h.eq (by decide)
  have ef : μ.1 3 1 = σ.1 36 1 := hF
  have ha : zr 0 255 (σ.1 36 0) := h.b (by decide)
  have hf : zr 0 255 (σ.1 36 1) := h.b (by decide)
  have c0 : zr 0 1 (0 : Int32) := zr_c (by decide)
  -- the end: both states given
  have fin : ∀ (A F A' F' : Int32), A' = A → F' = F → zr 0 255 A → zr 0 255 F → ∀ s t, s = zsi (zsi σ 36 1 F) 36 0 A → t = zsi (zsi μ 3 1 F') 3 0 A' → zTT I s t ∧ zF s t ∧ zQ [] [(36, 0, 1)] [] [] σ s ∧ zQ [] [(3, 0, 1)] [] [] μ t := fun A F A' F' e1 e2 r1 r2 s t es et => by
    subst es
    subst et
    subst e1
    subst e2
    exact ⟨h.upd hI [0, 1] (zQ.wi (zQ.wi zQ.rf rfl) rfl) (zQ.wi (zQ.wi zQ.rf rfl) rfl) rfl (zAl2 ⟨rfl, zrg_b (Or.inl (by decide)) r1⟩ ⟨rfl, zrg_b (Or.inl (by decide)) r2⟩), rfl, zQ.wi (zQ.wi zQ.rf rfl) rfl, zQ.wi (zQ.wi zQ.rf rfl) rfl⟩
  unfold fX5_doWith fX12_does fX5_doWith_292
  refine zp2_ckr (zp2_bvr (fun a' ea' => ?_))
  have ea' : a' = σ.1 36 0 := ea'.trans ea
  subst ea'

  rcases zr_hd (c := 0) hy rfl with e | hy
  · subst e
    have m : zpc (fX12_does_101 μ 0 b (σ.1 36 0)) (fun r => r = zsi (zsi μ 3 1 (mF (μ.1 3 1) (hA (σ.1 36 0) b 0) (cX ((σ.1 36 0 + b) + 0)) (((σ.1 36 0 + b) + 0) &&& 255) (oX ((sg (σ.1 36 0) + sg b) + 0)) 0)) 3 0 (((σ.1 36 0 + b) + 0) &&& 255)) := by
      unfold fX12_does_101 fX12_does_111 fX12_does_120 fX12_does_132
      refine zpc_if (fun q => absurd q (by decide)) (fun _ => zpc_if (fun q => absurd q (by decide)) (fun _ => zpc_if (fun q => absurd q (by decide)) (fun _ => zpc_if (fun q => absurd q (by decide)) (fun _ => p_addM (by decide)))))
    have c : zpc (fX5_sum σ (zgi σ 36 (0 : Int32).toNatClampNeg) b 0) (fun r => r = (zsi σ 36 1 (csum (σ.1 36 0) b 0), ((σ.1 36 0 + b) + 0) &&& 255)) := p_sumC
    refine zp2_ifl (fun _ => zp2_ckl (zp2_bil c (fun s1 v1 e1 => ?_))) (fun q => absurd rfl q)
    cases e1
    refine zp2_ifr (fun _ => ?_) (fun q => absurd (by decide) q)
    intro r r' er er'
    have er : some (zsi (zsi σ 36 1 (csum (σ.1 36 0) b 0)) 36 0 (((σ.1 36 0 + b) + 0) &&& 255)) = some r := er
    cases er
    refine fin _ _ _ _ rfl ?_ (z_r8 _) (csum_r ha hb c0) _ _ rfl (m _ er')
    rw [ef, fl_mF hf, ← v_sum ha hb c0]
    rfl
  rcases zr_hd (c := 1) hy rfl with e | hy
  · subst e
    have m : zpc (fX12_does_101 μ 1 b (σ.1 36 0)) (fun r => r = zsi (zsi μ 3 1 (mF (μ.1 3 1) (hA (σ.1 36 0) b (σ.1 36 1 &&& 1)) (cX ((σ.1 36 0 + b) + (σ.1 36 1 &&& 1))) (((σ.1 36 0 + b) + (σ.1 36 1 &&& 1)) &&& 255) (oX ((sg (σ.1 36 0) + sg b) + (σ.1 36 1 &&& 1))) 0)) 3 0 (((σ.1 36 0 + b) + (σ.1 36 1 &&& 1)) &&& 255)) := by
      unfold fX12_does_101 fX12_does_111 fX12_does_120 fX12_does_132
      refine zpc_if (fun _ => zpc_bi p_flag (fun t u et => ?_)) (fun q => absurd rfl q)
      cases et
      refine zpc_if (fun q => absurd q (by decide)) (fun _ => zpc_if (fun q => absurd q (by decide)) (fun _ => ?_))
      rw [ef, z_c0 hf, ← ef]
      have g := p_addM (μ := μ) (a := σ.1 36 0) (b := b) (c := μ.1 3 1 &&& 1) (y := 1) (by decide)
      rw [ef] at g ⊢
      exact g
    have c : zpc (fX5_sum σ (zgi σ 36 (0 : Int32).toNatClampNeg) b ((zgi σ 36 (1 : Int32).toNatClampNeg) &&& 1)) (fun r => r = (zsi σ 36 1 (csum (σ.1 36 0) b (σ.1 36 1 &&& 1)), ((σ.1 36 0 + b) + (σ.1 36 1 &&& 1)) &&& 255)) := p_sumC
    refine zp2_ifl (fun q => absurd q (by decide)) (fun _ => zp2_ifl (fun _ => zp2_ckl (zp2_ckl (zp2_bil c (fun s1 v1 e1 => ?_)))) (fun q => absurd rfl q))
    cases e1
    refine zp2_ifr (fun _ => ?_) (fun q => absurd (by decide) q)
    intro r r' er er'
    have er : some (zsi (zsi σ 36 1 (csum (σ.1 36 0) b (σ.1 36 1 &&& 1))) 36 0 (((σ.1 36 0 + b) + (σ.1 36 1 &&& 1)) &&& 255)) = some r := er
    cases er
    refine fin _ _ _ _ rfl ?_ (z_r8 _) (csum_r ha hb (z_r1 _)) _ _ rfl (m _ er')
    rw [ef, fl_mF hf, ← v_sum ha hb (z_r1 _)]
    rfl
  rcases zr_hd (c := 2) hy rfl with e | hy
  · subst e
    have m : zpc (fX12_does_101 μ 2 b (σ.1 36 0)) (fun r => r = zsi (zsi μ 3 1 (mF (μ.1 3 1) (hS (σ.1 36 0) b 0) (cX ((σ.1 36 0 - b) - 0)) (((σ.1 36 0 - b) - 0) &&& 255) (oX ((sg (σ.1 36 0) - sg b) - 0)) 1)) 3 0 (((σ.1 36 0 - b) - 0) &&& 255)) := by
      unfold fX12_does_101 fX12_does_111 fX12_does_120 fX12_does_132
      refine zpc_if (fun q => absurd q (by decide)) (fun _ => zpc_if (fun q => absurd q (by decide)) (fun _ => zpc_if (fun _ => zpc_if (fun _ => p_subM (by decide)) (fun q => absurd rfl q)) (fun q => absurd (by decide) q)))
    have c : zpc (fX5_difference σ (zgi σ 36 (0 : Int32).toNatClampNeg) b 0) (fun r => r = (zsi σ 36 1 (cdif (σ.1 36 0) b 0), ((σ.1 36 0 - b) - 0) &&& 255)) := p_difC
    refine zp2_ifl (fun q => absurd q (by decide)) (fun _ => zp2_ifl (fun q => absurd q (by decide)) (fun _ => zp2_ifl (fun _ => zp2_ckl (zp2_bil c (fun s1 v1 e1 => ?_))) (fun q => absurd rfl q)))
    cases e1
    refine zp2_ifr (fun _ => ?_) (fun q => absurd (by decide) q)
    intro r r' er er'
    have er : some (zsi (zsi σ 36 1 (cdif (σ.1 36 0) b 0)) 36 0 (((σ.1 36 0 - b) - 0) &&& 255)) = some r := er
    cases er
    refine fin _ _ _ _ rfl ?_ (z_r8 _) (cdif_r ha hb c0) _ _ rfl (m _ er')
    rw [ef, fl_mF hf, ← v_dif ha hb c0]
    rfl
  rcases zr_hd (c := 3) hy rfl with e | hy
  · subst e
    have m : zpc (fX12_does_101 μ 3 b (σ.1 36 0)) (fun r => r = zsi (zsi μ 3 1 (mF (μ.1 3 1) (hS (σ.1 36 0) b (σ.1 36 1 &&& 1)) (cX ((σ.1 36 0 - b) - (σ.1 36 1 &&& 1))) (((σ.1 36 0 - b) - (σ.1 36 1 &&& 1)) &&& 255) (oX ((sg (σ.1 36 0) - sg b) - (σ.1 36 1 &&& 1))) 1)) 3 0 (((σ.1 36 0 - b) - (σ.1 36 1 &&& 1)) &&& 255)) := by
      unfold fX12_does_101 fX12_does_111 fX12_does_120 fX12_does_132
      refine zpc_if (fun q => absurd q (by decide)) (fun _ => zpc_if (fun _ => zpc_bi p_flag (fun t u et => ?_)) (fun q => absurd rfl q))
      cases et
      refine zpc_if (fun _ => zpc_if (fun _ => ?_) (fun q => absurd rfl q)) (fun q => absurd (by decide) q)
      rw [ef, z_c0 hf, ← ef]
      have g := p_subM (μ := μ) (a := σ.1 36 0) (b := b) (c := μ.1 3 1 &&& 1) (y := 3) (by decide)
      rw [ef] at g ⊢
      exact g
    have c : zpc (fX5_difference σ (zgi σ 36 (0 : Int32).toNatClampNeg) b ((zgi σ 36 (1 : Int32).toNatClampNeg) &&& 1)) (fun r => r = (zsi σ 36 1 (cdif (σ.1 36 0) b (σ.1 36 1 &&& 1)), ((σ.1 36 0 - b) - (σ.1 36 1 &&& 1)) &&& 255)) := p_difC
    refine zp2_ifl (fun q => absurd q (by decide)) (fun _ => zp2_ifl (fun q => absurd q (by decide)) (fun _ => zp2_ifl (fun q => absurd q (by decide)) (fun _ => zp2_ifl (fun _ => zp2_ckl (zp2_ckl (zp2_bil c (fun s1 v1 e1 => ?_)))) (fun q => absurd rfl q))))
    cases e1
    refine zp2_ifr (fun _ => ?_) (fun q => absurd (by decide) q)
    intro r r' er er'
    have er : some (zsi (zsi σ 36 1 (cdif (σ.1 36 0) b (σ.1 36 1 &&& 1))) 36 0 (((σ.1 36 0 - b) - (σ.1 36 1 &&& 1)) &&& 255)) = some r := er
    cases er
    refine fin _ _ _ _ rfl ?_ (z_r8 _) (cdif_r ha hb (z_r1 _)) _ _ rfl (m _ er')
    rw [ef, fl_mF hf, ← v_dif ha hb (z_r1 _)]
    rfl
  rcases zr_hd (c := 4) hy rfl with e | hy
  · subst e
    have rA : zr 0 255 (σ.1 36 0 &&& b) := z_ab hb
    refine zp2_ifl (fun q => absurd q (by decide)) (fun _ => zp2_ifl (fun q => absurd q (by decide)) (fun _ => zp2_ifl (fun q => absurd q (by decide)) (fun _ => zp2_ifl (fun q => absurd q (by decide)) (fun _ => zp2_ifl (fun _ => zp2_ckl (zp2_ckl (zp2_bvl (fun s1 f1 => zp2_ckl (zp2_bil p_byC (fun s2 v2 e2 => ?_)))))) (fun q => absurd rfl q)))))
    cases e2
    refine zp2_ckl (zp2_bil p_parC (fun s3 v3 e3 => ?_))
    cases e3
    have g1 : zgi s1 36 (0 : Int32).toNatClampNeg = (σ.1 36 0 &&& b) := by subst f1; rfl
    rw [g1]
    refine zp2_ckl (zp2_bvl (fun s4 f4 => ?_))
    refine zp2_ifr (fun q => absurd q (by decide)) (fun _ => zp2_ifr (fun q => absurd q (by decide)) (fun _ => zp2_ifr (fun _ => ?_) (fun q => absurd rfl q)))
    intro r r' er er'
    cases er
    have em := p_logM (μ := μ) (y := 4) (A := (σ.1 36 0 &&& b)) (Or.inl rfl) _ er'
    have es : s4 = zsi (zsi σ 36 1 ((cby (σ.1 36 0 &&& b) ||| cpar (σ.1 36 0 &&& b)) ||| 16)) 36 0 (σ.1 36 0 &&& b) := by
      rw [f4, f1]
      exact zsi_comm (by decide)
    have em2 : r' = zsi (zsi μ 3 1 (pt (pt (pt (pt (gby (μ.1 3 1) (σ.1 36 0 &&& b)) 4 (if (4 : Int32) = 4 then 1 else 0)) 2 (gev (σ.1 36 0 &&& b))) 1 0) 0 0)) 3 0 (σ.1 36 0 &&& b) := by
      rw [em]
      exact zsi_comm (by decide)
    refine fin _ _ _ _ rfl ?_ rA ?_ _ _ es em2
    · rw [ef, fl_of hf, fl_by, pt_4, pt_2, pt_1, pt_0]
      refine Eq.trans ?_ ((v_lg rA true).trans ?_)
      · rfl
      · rfl
    · rw [show (cby (σ.1 36 0 &&& b) ||| cpar (σ.1 36 0 &&& b)) ||| 16 = (cby (σ.1 36 0 &&& b) ||| cpar (σ.1 36 0 &&& b)) ||| (bif true then 16 else 0) from rfl, ← v_lg rA true]
      exact zfl_r _ _ _ _ _ _ _ _
  rcases zr_hd (c := 5) hy rfl with e | hy
  · subst e
    have rA : zr 0 255 (σ.1 36 0 ^^^ b) := z_xb ha hb
    refine zp2_ifl (fun q => absurd q (by decide)) (fun _ => zp2_ifl (fun q => absurd q (by decide)) (fun _ => zp2_ifl (fun q => absurd q (by decide)) (fun _ => zp2_ifl (fun q => absurd q (by decide)) (fun _ => zp2_ifl (fun q => absurd q (by decide)) (fun _ => zp2_ifl (fun _ => zp2_ckl (zp2_ckl (zp2_bvl (fun s1 f1 => zp2_ckl (zp2_bil p_byC (fun s2 v2 e2 => ?_)))))) (fun q => absurd rfl q))))))
    cases e2
    refine zp2_ckl (zp2_bil p_parC (fun s3 v3 e3 => ?_))
    cases e3
    have g1 : zgi s1 36 (0 : Int32).toNatClampNeg = (σ.1 36 0 ^^^ b) := by subst f1; rfl
    rw [g1]
    refine zp2_ckl (zp2_bvl (fun s4 f4 => ?_))
    refine zp2_ifr (fun q => absurd q (by decide)) (fun _ => zp2_ifr (fun q => absurd q (by decide)) (fun _ => zp2_ifr (fun q => absurd q (by decide)) (fun _ => zp2_ifr (fun _ => ?_) (fun q => absurd rfl q))))
    intro r r' er er'
    cases er
    have em := p_logM (μ := μ) (y := 5) (A := (σ.1 36 0 ^^^ b)) (Or.inr (by decide)) _ er'
    have es : s4 = zsi (zsi σ 36 1 (cby (σ.1 36 0 ^^^ b) ||| cpar (σ.1 36 0 ^^^ b))) 36 0 (σ.1 36 0 ^^^ b) := by
      rw [f4, f1]
      exact zsi_comm (by decide)
    have em2 : r' = zsi (zsi μ 3 1 (pt (pt (pt (pt (gby (μ.1 3 1) (σ.1 36 0 ^^^ b)) 4 (if (5 : Int32) = 4 then 1 else 0)) 2 (gev (σ.1 36 0 ^^^ b))) 1 0) 0 0)) 3 0 (σ.1 36 0 ^^^ b) := by
      rw [em]
      exact zsi_comm (by decide)
    refine fin _ _ _ _ rfl ?_ rA ?_ _ _ es em2
    · rw [ef, fl_of hf, fl_by, pt_4, pt_2, pt_1, pt_0]
      refine Eq.trans ?_ ((v_lg rA false).trans ?_)
      · rfl
      · exact Int32.or_zero
    · rw [show cby (σ.1 36 0 ^^^ b) ||| cpar (σ.1 36 0 ^^^ b) = (cby (σ.1 36 0 ^^^ b) ||| cpar (σ.1 36 0 ^^^ b)) ||| (bif false then 16 else 0) from Int32.or_zero.symm, ← v_lg rA false]
      exact zfl_r _ _ _ _ _ _ _ _
  rcases zr_hd (c := 6) hy rfl with e | hy
  · subst e
    have rA : zr 0 255 (σ.1 36 0 ||| b) := z_ob ha hb
    refine zp2_ifl (fun q => absurd q (by decide)) (fun _ => zp2_ifl (fun q => absurd q (by decide)) (fun _ => zp2_ifl (fun q => absurd q (by decide)) (fun _ => zp2_ifl (fun q => absurd q (by decide)) (fun _ => zp2_ifl (fun q => absurd q (by decide)) (fun _ => zp2_ifl (fun q => absurd q (by decide)) (fun _ => zp2_ifl (fun _ => zp2_ckl (zp2_ckl (zp2_bvl (fun s1 f1 => zp2_ckl (zp2_bil p_byC (fun s2 v2 e2 => ?_)))))) (fun q => absurd rfl q)))))))
    cases e2
    refine zp2_ckl (zp2_bil p_parC (fun s3 v3 e3 => ?_))
    cases e3
    have g1 : zgi s1 36 (0 : Int32).toNatClampNeg = (σ.1 36 0 ||| b) := by subst f1; rfl
    rw [g1]
    refine zp2_ckl (zp2_bvl (fun s4 f4 => ?_))
    refine zp2_ifr (fun q => absurd q (by decide)) (fun _ => zp2_ifr (fun q => absurd q (by decide)) (fun _ => zp2_ifr (fun q => absurd q (by decide)) (fun _ => zp2_ifr (fun q => absurd q (by decide)) (fun _ => ?_))))
    intro r r' er er'
    cases er
    have em := p_logM (μ := μ) (y := 6) (A := (σ.1 36 0 ||| b)) (Or.inr (by decide)) _ er'
    have es : s4 = zsi (zsi σ 36 1 (cby (σ.1 36 0 ||| b) ||| cpar (σ.1 36 0 ||| b))) 36 0 (σ.1 36 0 ||| b) := by
      rw [f4, f1]
      exact zsi_comm (by decide)
    have em2 : r' = zsi (zsi μ 3 1 (pt (pt (pt (pt (gby (μ.1 3 1) (σ.1 36 0 ||| b)) 4 (if (6 : Int32) = 4 then 1 else 0)) 2 (gev (σ.1 36 0 ||| b))) 1 0) 0 0)) 3 0 (σ.1 36 0 ||| b) := by
      rw [em]
      exact zsi_comm (by decide)
    refine fin _ _ _ _ rfl ?_ rA ?_ _ _ es em2
    · rw [ef, fl_of hf, fl_by, pt_4, pt_2, pt_1, pt_0]
      refine Eq.trans ?_ ((v_lg rA false).trans ?_)
      · rfl
      · exact Int32.or_zero
    · rw [show cby (σ.1 36 0 ||| b) ||| cpar (σ.1 36 0 ||| b) = (cby (σ.1 36 0 ||| b) ||| cpar (σ.1 36 0 ||| b)) ||| (bif false then 16 else 0) from Int32.or_zero.symm, ← v_lg rA false]
      exact zfl_r _ _ _ _ _ _ _ _
  rcases zr_hd (c := 7) hy rfl with e | hy
  · subst e
    have m : zpc (fX12_does_101 μ 7 b (σ.1 36 0)) (fun r => r = zsi μ 3 1 (gxy (mF (μ.1 3 1) (hS (σ.1 36 0) b 0) (cX ((σ.1 36 0 - b) - 0)) (((σ.1 36 0 - b) - 0) &&& 255) (oX ((sg (σ.1 36 0) - sg b) - 0)) 1) b)) := by
      unfold fX12_does_101 fX12_does_111 fX12_does_120 fX12_does_132
      refine zpc_if (fun q => absurd q (by decide)) (fun _ => zpc_if (fun q => absurd q (by decide)) (fun _ => zpc_if (fun _ => zpc_if (fun _ => p_subM7 rfl) (fun q => absurd rfl q)) (fun q => absurd (by decide) q)))
    have c : zpc (fX5_difference σ (zgi σ 36 (0 : Int32).toNatClampNeg) b 0) (fun r => r = (zsi σ 36 1 (cdif (σ.1 36 0) b 0), ((σ.1 36 0 - b) - 0) &&& 255)) := p_difC
    refine zp2_ifl (fun q => absurd q (by decide)) (fun _ => zp2_ifl (fun q => absurd q (by decide)) (fun _ => zp2_ifl (fun q => absurd q (by decide)) (fun _ => zp2_ifl (fun q => absurd q (by decide)) (fun _ => zp2_ifl (fun q => absurd q (by decide)) (fun _ => zp2_ifl (fun q => absurd q (by decide)) (fun _ => zp2_ifl (fun q => absurd q (by decide)) (fun _ => zp2_ckl (zp2_bil c (fun s1 v1 e1 => ?_)))))))))
    cases e1
    refine zp2_ifr (fun q => absurd q (by decide)) (fun _ => zp2_ifr (fun _ => ?_) (fun q => absurd (by decide) q))
    intro r r' er er'
    have er : some (zsi (zsi σ 36 1 (cdif (σ.1 36 0) b 0)) 36 1 ((cdif (σ.1 36 0) b 0 &&& (-41)) ||| (b &&& 40))) = some r := er
    have em := m _ er'
    cases er
    rw [em, zsi_ow]
    have e : gxy (mF (μ.1 3 1) (hS (σ.1 36 0) b 0) (cX ((σ.1 36 0 - b) - 0)) (((σ.1 36 0 - b) - 0) &&& 255) (oX ((sg (σ.1 36 0) - sg b) - 0)) 1) b = (cdif (σ.1 36 0) b 0 &&& (-41)) ||| (b &&& 40) := by
      rw [ef, fl_mF hf, fl_xy, ← v_dif ha hb c0, v_cp hb]
      rfl
    rw [e]
    refine ⟨h.upd hI [1] (zQ.wi zQ.rf rfl) (zQ.wi zQ.rf rfl) rfl (zAl1 ⟨rfl, zrg_b (Or.inl (by decide)) ?_⟩), rfl, zQ.wi zQ.rf rfl, zQ.wi zQ.rf rfl⟩
    show zr 0 255 ((cdif (σ.1 36 0) b 0 &&& (-41)) ||| (b &&& 40))
    rw [← v_dif ha hb c0, v_cp hb]
    exact zfl_r _ _ _ _ _ _ _ _
  exact zr_no9 hy (by decide)
end ZDO
end ZJN10
