theorem fW_fX12_loudness {σ0 : zSt} {σ : zSt} {x0 : Int32} (h : (zQ [] [(3, 69, 88), (3, 98, 170), (3, 172, 279)] [10, 11] [(4, 3, 4)]) σ0 σ) : zpc (fX12_loudness σ x0) (fun r => (zQ [] [(3, 69, 88), (3, 98, 170), (3, 172, 279)] [10, 11] [(4, 3, 4)]) σ0 (r.1)) := by
  unfold fX12_loudness
  exact zpc_if (fun _ => zpc_some h) (fun _ => zpc_if (fun _ => zpc_some h) (fun _ => zpc_if (fun _ => zpc_some h) (fun _ => zpc_if (fun _ => zpc_some h) (fun _ => zpc_if (fun _ => zpc_some h) (fun _ => zpc_if (fun _ => zpc_some h) (fun _ => zpc_if (fun _ => zpc_some h) (fun _ => zpc_if (fun _ => zpc_some h) (fun _ => zpc_if (fun _ => zpc_some h) (fun _ => zpc_if (fun _ => zpc_some h) (fun _ => zpc_if (fun _ => zpc_some h) (fun _ => zpc_if (fun _ => zpc_some h) (fun _ => zpc_if (fun _ => zpc_some h) (fun _ => zpc_if (fun _ => zpc_some h) (fun _ => zpc_if (fun _ => zpc_some h) (fun _ => zpc_some h)))))))))))))))
theorem fW_fX12_sample_102 {σ0 : zSt} {k2 : zSt → Int32 → Option (zSt)} (hk2 : ∀ (y0 : zSt) (y1 : Int32), (zQ [] [(3, 69, 88), (3, 98, 170), (3, 172, 279)] [10, 11] [(4, 3, 4)]) σ0 y0 → zr 0 3 y1 → zpc (k2 y0 y1) (fun r => (zQ [] [(3, 69, 88), (3, 98, 170), (3, 172, 279)] [10, 11] [(4, 3, 4)]) σ0 (r))) {σ : zSt} {x1 : Int32} (h : (zQ [] [(3, 69, 88), (3, 98, 170), (3, 172, 279)] [10, 11] [(4, 3, 4)]) σ0 σ) (qx1 : zr 0 2 x1) : zpc (fX12_sample_102 k2 σ x1) (fun r => (zQ [] [(3, 69, 88), (3, 98, 170), (3, 172, 279)] [10, 11] [(4, 3, 4)]) σ0 (r)) := by
  unfold fX12_sample_102
  exact zpc_bv (fun v1 ev1 => hk2 _ _ h (zr_w (show zr 1 3 v1 by rw [ev1]; exact (zr_add (lo := 1) (hi := 3) qx1 (zr_c (x := 1) (lo := 1) (hi := 1) (by decide)) (by decide))) (by decide)))
theorem fW_fX12_sample_101 {σ0 : zSt} {k2 : zSt → Int32 → Option (zSt)} (hk2 : ∀ (y0 : zSt) (y1 : Int32), (zQ [] [(3, 69, 88), (3, 98, 170), (3, 172, 279)] [10, 11] [(4, 3, 4)]) σ0 y0 → zr 0 3 y1 → zpc (k2 y0 y1) (fun r => (zQ [] [(3, 69, 88), (3, 98, 170), (3, 172, 279)] [10, 11] [(4, 3, 4)]) σ0 (r))) {σ : zSt} {x1 : Int32} {s0 : Int32} {s1 : Int32} (h : (zQ [] [(3, 69, 88), (3, 98, 170), (3, 172, 279)] [10, 11] [(4, 3, 4)]) σ0 σ) (qx1 : zr 0 2 x1) (qs1 : zr 69 86 s1) : zpc (fX12_sample_101 k2 σ x1 s0 s1) (fun r => (zQ [] [(3, 69, 88), (3, 98, 170), (3, 172, 279)] [10, 11] [(4, 3, 4)]) σ0 (r)) := by
  unfold fX12_sample_101
  exact zpc_ck (zpc_bs (zQ.wr (a := 69) (b := 88) (lo := 69) (hi := 86) h qs1 rfl (by decide)) (fun σ2 hσ2 => fW_fX12_sample_102 hk2 hσ2 qx1))
theorem fW_fX12_sample_32 {σ0 : zSt} {k2 : zSt → Int32 → Option (zSt)} (hk2 : ∀ (y0 : zSt) (y1 : Int32), (zQ [] [(3, 69, 88), (3, 98, 170), (3, 172, 279)] [10, 11] [(4, 3, 4)]) σ0 y0 → zr 0 3 y1 → zpc (k2 y0 y1) (fun r => (zQ [] [(3, 69, 88), (3, 98, 170), (3, 172, 279)] [10, 11] [(4, 3, 4)]) σ0 (r))) {σ : zSt} {x1 : Int32} (h : (zQ [] [(3, 69, 88), (3, 98, 170), (3, 172, 279)] [10, 11] [(4, 3, 4)]) σ0 σ) (qx1 : zr 0 2 x1) : zpc (fX12_sample_32 k2 σ x1) (fun r => (zQ [] [(3, 69, 88), (3, 98, 170), (3, 172, 279)] [10, 11] [(4, 3, 4)]) σ0 (r)) := by
  unfold fX12_sample_32
  exact zpc_ck (zpc_if (fun _ => zpc_ck (zpc_ck (zpc_bs (zQ.wr (a := 69) (b := 88) (lo := 72) (hi := 74) h (zr_add (lo := 72) (hi := 74) (zr_c (x := 72) (lo := 72) (hi := 72) (by decide)) qx1 (by decide)) rfl (by decide)) (fun σ3 hσ3 => zpc_ck (zpc_if (fun _ => zpc_ck (fW_fX12_sample_101 hk2 hσ3 qx1 (zr_w (zr_add (lo := 75) (hi := 77) (zr_c (x := 75) (lo := 75) (hi := 75) (by decide)) qx1 (by decide)) (by decide)))) (fun _ => fW_fX12_sample_101 hk2 hσ3 qx1 (zr_w (zr_add (lo := 75) (hi := 77) (zr_c (x := 75) (lo := 75) (hi := 75) (by decide)) qx1 (by decide)) (by decide)))))))) (fun _ => fW_fX12_sample_102 hk2 h qx1))
theorem fW_fX12_sample_407 {σ0 : zSt} {k275 : zSt → Int64 → Int64 → Int32 → Option (zSt)} (hk275 : ∀ (y0 : zSt) (y1 : Int64) (y2 : Int64) (y3 : Int32), (zQ [] [(3, 69, 88), (3, 98, 170), (3, 172, 279)] [10, 11] [(4, 3, 4)]) σ0 y0 → zpc (k275 y0 y1 y2 y3) (fun r => (zQ [] [(3, 69, 88), (3, 98, 170), (3, 172, 279)] [10, 11] [(4, 3, 4)]) σ0 (r))) {σ : zSt} {x1 : Int64} {x3 : Int64} {x5 : Int32} (h : (zQ [] [(3, 69, 88), (3, 98, 170), (3, 172, 279)] [10, 11] [(4, 3, 4)]) σ0 σ) : zpc (fX12_sample_407 k275 σ x1 x3 x5) (fun r => (zQ [] [(3, 69, 88), (3, 98, 170), (3, 172, 279)] [10, 11] [(4, 3, 4)]) σ0 (r)) := by
  unfold fX12_sample_407
  exact zpc_bv (fun v4 _ => hk275 _ _ _ _ h)
theorem fW_fX12_sample_369 {σ0 : zSt} {k275 : zSt → Int64 → Int64 → Int32 → Option (zSt)} (hk275 : ∀ (y0 : zSt) (y1 : Int64) (y2 : Int64) (y3 : Int32), (zQ [] [(3, 69, 88), (3, 98, 170), (3, 172, 279)] [10, 11] [(4, 3, 4)]) σ0 y0 → zpc (k275 y0 y1 y2 y3) (fun r => (zQ [] [(3, 69, 88), (3, 98, 170), (3, 172, 279)] [10, 11] [(4, 3, 4)]) σ0 (r))) {σ : zSt} {x1 : Int64} {x3 : Int64} {x5 : Int32} {x6 : Int32} (h : (zQ [] [(3, 69, 88), (3, 98, 170), (3, 172, 279)] [10, 11] [(4, 3, 4)]) σ0 σ) : zpc (fX12_sample_369 k275 σ x1 x3 x5 x6) (fun r => (zQ [] [(3, 69, 88), (3, 98, 170), (3, 172, 279)] [10, 11] [(4, 3, 4)]) σ0 (r)) := by
  unfold fX12_sample_369
  exact zpc_if (fun _ => fW_fX12_sample_407 hk275 h) (fun _ => zpc_ck (zpc_if (fun _ => zpc_ck (zpc_bi (fW_fX12_loudness h) (fun σ5 v6 hσ5 => zpc_bv (fun v7 _ => fW_fX12_sample_407 hk275 hσ5)))) (fun _ => fW_fX12_sample_407 hk275 h)))
theorem fW_fX12_sample_327 {σ0 : zSt} {k275 : zSt → Int64 → Int64 → Int32 → Option (zSt)} (hk275 : ∀ (y0 : zSt) (y1 : Int64) (y2 : Int64) (y3 : Int32), (zQ [] [(3, 69, 88), (3, 98, 170), (3, 172, 279)] [10, 11] [(4, 3, 4)]) σ0 y0 → zpc (k275 y0 y1 y2 y3) (fun r => (zQ [] [(3, 69, 88), (3, 98, 170), (3, 172, 279)] [10, 11] [(4, 3, 4)]) σ0 (r))) {σ : zSt} {x1 : Int64} {x3 : Int64} {x5 : Int32} {s0 : Int32} (h : (zQ [] [(3, 69, 88), (3, 98, 170), (3, 172, 279)] [10, 11] [(4, 3, 4)]) σ0 σ) : zpc (fX12_sample_327 k275 σ x1 x3 x5 s0) (fun r => (zQ [] [(3, 69, 88), (3, 98, 170), (3, 172, 279)] [10, 11] [(4, 3, 4)]) σ0 (r)) := by
  unfold fX12_sample_327
  exact zpc_if (fun _ => fW_fX12_sample_369 hk275 h) (fun _ => zpc_ck (zpc_if (fun _ => zpc_ck (zpc_bi (fW_fX12_loudness h) (fun σ8 v9 hσ8 => zpc_bv (fun v10 _ => fW_fX12_sample_369 hk275 hσ8)))) (fun _ => fW_fX12_sample_369 hk275 h)))
theorem fW_fX12_sample_508 {σ0 : zSt} {σ : zSt} {x1 : Int64} {x3 : Int64} (h : (zQ [] [(3, 69, 88), (3, 98, 170), (3, 172, 279)] [10, 11] [(4, 3, 4)]) σ0 σ) : zpc (fX12_sample_508 σ x1 x3) (fun r => (zQ [] [(3, 69, 88), (3, 98, 170), (3, 172, 279)] [10, 11] [(4, 3, 4)]) σ0 (r)) := by
  unfold fX12_sample_508
  exact zpc_ck (zpc_ck (zpc_ck (zpc_ck (zpc_bs (zQ.wl h rfl) (fun σ11 hσ11 => zpc_some hσ11)))))
theorem fW_fX12_sample_275_body {σ0 : zSt} {k275 : zSt → Int64 → Int64 → Int32 → Option (zSt)} (hk275 : ∀ (y0 : zSt) (y1 : Int64) (y2 : Int64) (y3 : Int32), (zQ [] [(3, 69, 88), (3, 98, 170), (3, 172, 279)] [10, 11] [(4, 3, 4)]) σ0 y0 → zpc (k275 y0 y1 y2 y3) (fun r => (zQ [] [(3, 69, 88), (3, 98, 170), (3, 172, 279)] [10, 11] [(4, 3, 4)]) σ0 (r))) {σ : zSt} {x1 : Int64} {x3 : Int64} {x5 : Int32} (h : (zQ [] [(3, 69, 88), (3, 98, 170), (3, 172, 279)] [10, 11] [(4, 3, 4)]) σ0 σ) : zpc (fX12_sample_275_body k275 σ x1 x3 x5) (fun r => (zQ [] [(3, 69, 88), (3, 98, 170), (3, 172, 279)] [10, 11] [(4, 3, 4)]) σ0 (r)) := by
  unfold fX12_sample_275_body
  exact zpc_if (fun _ => zpc_ck (zpc_ck (zpc_bs (zQ.wl h rfl) (fun σ12 hσ12 => zpc_ck (zpc_ck (zpc_bs (zQ.wi hσ12 rfl) (fun σ13 hσ13 => zpc_ck (zpc_ck (zpc_bs (zQ.wi hσ13 rfl) (fun σ14 hσ14 => zpc_ck (zpc_ck (zpc_bs (zQ.wi hσ14 rfl) (fun σ15 hσ15 => zpc_ck (zpc_if (fun _ => zpc_ck (zpc_ck (zpc_ck (zpc_bs (zQ.wi hσ15 rfl) (fun σ17 hσ17 => fW_fX12_sample_508 hσ17))))) (fun _ => zpc_ck (zpc_ck (zpc_bs (zQ.wi hσ15 rfl) (fun σ16 hσ16 => fW_fX12_sample_508 hσ16)))))))))))))))))) (fun _ => zpc_if (fun _ => zpc_ck (zpc_if (fun _ => fW_fX12_sample_327 hk275 h) (fun _ => fW_fX12_sample_327 hk275 h))) (fun _ => zpc_ck (zpc_if (fun _ => fW_fX12_sample_327 hk275 h) (fun _ => fW_fX12_sample_327 hk275 h))))
theorem fW_fX12_sample_275 {σ0 : zSt} : ∀ (n : Nat) (y0 : zSt) (y1 : Int64) (y2 : Int64) (y3 : Int32), (zQ [] [(3, 69, 88), (3, 98, 170), (3, 172, 279)] [10, 11] [(4, 3, 4)]) σ0 y0 → zpc (fX12_sample_275 n y0 y1 y2 y3) (fun r => (zQ [] [(3, 69, 88), (3, 98, 170), (3, 172, 279)] [10, 11] [(4, 3, 4)]) σ0 (r)) := by
  intro n
  induction n with
  | zero => intro y0 y1 y2 y3 h; exact zpc_none
  | succ n ih => intro y0 y1 y2 y3 h; exact fW_fX12_sample_275_body ih h
theorem fW_fX12_sample_268 {σ0 : zSt} {σ : zSt} (h : (zQ [] [(3, 69, 88), (3, 98, 170), (3, 172, 279)] [10, 11] [(4, 3, 4)]) σ0 σ) : zpc (fX12_sample_268 σ) (fun r => (zQ [] [(3, 69, 88), (3, 98, 170), (3, 172, 279)] [10, 11] [(4, 3, 4)]) σ0 (r)) := by
  unfold fX12_sample_268
  exact fW_fX12_sample_275 _ _ _ _ _ h
theorem fW_fX12_sample_246 {σ0 : zSt} {σ : zSt} {s0 : Int32} (h : (zQ [] [(3, 69, 88), (3, 98, 170), (3, 172, 279)] [10, 11] [(4, 3, 4)]) σ0 σ) : zpc (fX12_sample_246 σ s0) (fun r => (zQ [] [(3, 69, 88), (3, 98, 170), (3, 172, 279)] [10, 11] [(4, 3, 4)]) σ0 (r)) := by
  unfold fX12_sample_246
  exact zpc_ck (zpc_ck (zpc_bs (zQ.wi h rfl) (fun σ18 hσ18 => fW_fX12_sample_268 hσ18)))
theorem fW_fX12_sample_174 {σ0 : zSt} {σ : zSt} {s0 : Int32} {s1 : Int32} (h : (zQ [] [(3, 69, 88), (3, 98, 170), (3, 172, 279)] [10, 11] [(4, 3, 4)]) σ0 σ) (qs1 : zr 69 86 s1) : zpc (fX12_sample_174 σ s0 s1) (fun r => (zQ [] [(3, 69, 88), (3, 98, 170), (3, 172, 279)] [10, 11] [(4, 3, 4)]) σ0 (r)) := by
  unfold fX12_sample_174
  exact zpc_ck (zpc_bs (zQ.wr (a := 69) (b := 88) (lo := 69) (hi := 86) h qs1 rfl (by decide)) (fun σ19 hσ19 => zpc_ck (zpc_ck (zpc_bs (zQ.wi hσ19 rfl) (fun σ20 hσ20 => zpc_ck (zpc_if (fun _ => zpc_ck (zpc_if (fun _ => zpc_ck (zpc_ck (fW_fX12_sample_246 hσ20))) (fun _ => zpc_ck (fW_fX12_sample_246 hσ20)))) (fun _ => fW_fX12_sample_268 hσ20)))))))
theorem fW_fX12_sample_129 {σ0 : zSt} {σ : zSt} (h : (zQ [] [(3, 69, 88), (3, 98, 170), (3, 172, 279)] [10, 11] [(4, 3, 4)]) σ0 σ) : zpc (fX12_sample_129 σ) (fun r => (zQ [] [(3, 69, 88), (3, 98, 170), (3, 172, 279)] [10, 11] [(4, 3, 4)]) σ0 (r)) := by
  unfold fX12_sample_129
  exact zpc_ck (zpc_if (fun _ => zpc_ck (zpc_ck (zpc_bv (fun v21 _ => zpc_if (fun _ => zpc_ck (fW_fX12_sample_174 h (zr_w (zr_c (x := 83) (lo := 83) (hi := 83) (by decide)) (by decide)))) (fun _ => fW_fX12_sample_174 h (zr_w (zr_c (x := 83) (lo := 83) (hi := 83) (by decide)) (by decide))))))) (fun _ => fW_fX12_sample_268 h))
theorem fW_fX12_sample_2_body {σ0 : zSt} {k2 : zSt → Int32 → Option (zSt)} (hk2 : ∀ (y0 : zSt) (y1 : Int32), (zQ [] [(3, 69, 88), (3, 98, 170), (3, 172, 279)] [10, 11] [(4, 3, 4)]) σ0 y0 → zr 0 3 y1 → zpc (k2 y0 y1) (fun r => (zQ [] [(3, 69, 88), (3, 98, 170), (3, 172, 279)] [10, 11] [(4, 3, 4)]) σ0 (r))) {σ : zSt} {x1 : Int32} (h : (zQ [] [(3, 69, 88), (3, 98, 170), (3, 172, 279)] [10, 11] [(4, 3, 4)]) σ0 σ) (qx1 : zr 0 3 x1) : zpc (fX12_sample_2_body k2 σ x1) (fun r => (zQ [] [(3, 69, 88), (3, 98, 170), (3, 172, 279)] [10, 11] [(4, 3, 4)]) σ0 (r)) := by
  unfold fX12_sample_2_body
  exact zpc_if (fun g1 => zpc_ck (zpc_if (fun _ => fW_fX12_sample_129 h) (fun _ => zpc_ck (zpc_ck (zpc_bs (zQ.wi h rfl) (fun σ22 hσ22 => fW_fX12_sample_129 hσ22)))))) (fun g1 => zpc_ck (zpc_if (fun _ => fW_fX12_sample_32 hk2 h (zr_nge (k := 3) (m := 2) qx1 rfl g1 (by decide))) (fun _ => zpc_bv (fun v23 ev23 => zpc_ck (zpc_ck (zpc_bs (zQ.wr (a := 69) (b := 88) (lo := 72) (hi := 74) h (show zr 72 74 v23 by rw [ev23]; exact (zr_add (lo := 72) (hi := 74) (zr_c (x := 72) (lo := 72) (hi := 72) (by decide)) (zr_nge (k := 3) (m := 2) qx1 rfl g1 (by decide)) (by decide))) rfl (by decide)) (fun σ24 hσ24 => fW_fX12_sample_32 hk2 hσ24 (zr_nge (k := 3) (m := 2) qx1 rfl g1 (by decide)))))))))
theorem fW_fX12_sample_2 {σ0 : zSt} : ∀ (n : Nat) (y0 : zSt) (y1 : Int32), (zQ [] [(3, 69, 88), (3, 98, 170), (3, 172, 279)] [10, 11] [(4, 3, 4)]) σ0 y0 → zr 0 3 y1 → zpc (fX12_sample_2 n y0 y1) (fun r => (zQ [] [(3, 69, 88), (3, 98, 170), (3, 172, 279)] [10, 11] [(4, 3, 4)]) σ0 (r)) := by
  intro n
  induction n with
  | zero => intro y0 y1 h q1; exact zpc_none
  | succ n ih => intro y0 y1 h q1; exact fW_fX12_sample_2_body ih h q1
theorem fW_fX12_sample {σ0 : zSt} {σ : zSt} (h : (zQ [] [(3, 69, 88), (3, 98, 170), (3, 172, 279)] [10, 11] [(4, 3, 4)]) σ0 σ) : zpc (fX12_sample σ) (fun r => (zQ [] [(3, 69, 88), (3, 98, 170), (3, 172, 279)] [10, 11] [(4, 3, 4)]) σ0 (r)) := by
  unfold fX12_sample
  exact fW_fX12_sample_2 _ _ _ h (zr_w (zr_c (x := 0) (lo := 0) (hi := 0) (by decide)) (by decide))
theorem fW_fX12_wreg {σ0 : zSt} {σ : zSt} {x1 : Int32} (h : (zQ [] [(3, 69, 88), (3, 98, 170), (3, 172, 279)] [10, 11] [(4, 3, 4)]) σ0 σ) : zpc (fX12_wreg σ x1) (fun r => (zQ [] [(3, 69, 88), (3, 98, 170), (3, 172, 279)] [10, 11] [(4, 3, 4)]) σ0 (r.1)) := by
  unfold fX12_wreg
  exact zpc_ck (zpc_some h)
theorem fW_fX12_isRhythm_22 {σ0 : zSt} {σ : zSt} {s0 : Int32} (h : (zQ [] [(3, 69, 88), (3, 98, 170), (3, 172, 279)] [10, 11] [(4, 3, 4)]) σ0 σ) : zpc (fX12_isRhythm_22 σ s0) (fun r => (zQ [] [(3, 69, 88), (3, 98, 170), (3, 172, 279)] [10, 11] [(4, 3, 4)]) σ0 (r.1)) := by
  unfold fX12_isRhythm_22
  exact zpc_ck (zpc_some h)
theorem fW_fX12_isRhythm_21 {σ0 : zSt} {σ : zSt} (h : (zQ [] [(3, 69, 88), (3, 98, 170), (3, 172, 279)] [10, 11] [(4, 3, 4)]) σ0 σ) : zpc (fX12_isRhythm_21 σ) (fun r => (zQ [] [(3, 69, 88), (3, 98, 170), (3, 172, 279)] [10, 11] [(4, 3, 4)]) σ0 (r.1)) := by
  unfold fX12_isRhythm_21
  exact fW_fX12_isRhythm_22 h
theorem fW_fX12_isRhythm {σ0 : zSt} {σ : zSt} {x1 : Int32} (h : (zQ [] [(3, 69, 88), (3, 98, 170), (3, 172, 279)] [10, 11] [(4, 3, 4)]) σ0 σ) : zpc (fX12_isRhythm σ x1) (fun r => (zQ [] [(3, 69, 88), (3, 98, 170), (3, 172, 279)] [10, 11] [(4, 3, 4)]) σ0 (r.1)) := by
  unfold fX12_isRhythm
  exact zpc_if (fun _ => fW_fX12_isRhythm_21 h) (fun _ => zpc_bi (fW_fX12_wreg h) (fun σ1 v2 hσ1 => zpc_if (fun _ => fW_fX12_isRhythm_21 hσ1) (fun _ => fW_fX12_isRhythm_22 hσ1)))
theorem fW_fX12_isOn_60 {σ0 : zSt} {σ : zSt} {x3 : Int32} {s0 : Int32} (h : (zQ [] [(3, 69, 88), (3, 98, 170), (3, 172, 279)] [10, 11] [(4, 3, 4)]) σ0 σ) : zpc (fX12_isOn_60 σ x3 s0) (fun r => (zQ [] [(3, 69, 88), (3, 98, 170), (3, 172, 279)] [10, 11] [(4, 3, 4)]) σ0 (r.1)) := by
  unfold fX12_isOn_60
  exact zpc_bi (fW_fX12_wreg h) (fun σ1 v2 hσ1 => zpc_some hσ1)
theorem fW_fX12_isOn {σ0 : zSt} {σ : zSt} {x1 : Int32} {x2 : Int32} (h : (zQ [] [(3, 69, 88), (3, 98, 170), (3, 172, 279)] [10, 11] [(4, 3, 4)]) σ0 σ) : zpc (fX12_isOn σ x1 x2) (fun r => (zQ [] [(3, 69, 88), (3, 98, 170), (3, 172, 279)] [10, 11] [(4, 3, 4)]) σ0 (r.1)) := by
  unfold fX12_isOn
  exact zpc_bi (fW_fX12_wreg h) (fun σ3 v4 hσ3 => zpc_bv (fun v5 _ => zpc_bi (fW_fX12_isRhythm hσ3) (fun σ6 v7 hσ6 => zpc_if (fun _ => zpc_some hσ6) (fun _ => zpc_if (fun _ => fW_fX12_isOn_60 hσ6) (fun _ => zpc_if (fun _ => zpc_if (fun _ => fW_fX12_isOn_60 hσ6) (fun _ => fW_fX12_isOn_60 hσ6)) (fun _ => zpc_if (fun _ => fW_fX12_isOn_60 hσ6) (fun _ => fW_fX12_isOn_60 hσ6)))))))
theorem fW_fX12_digit_20 {σ0 : zSt} {σ : zSt} {s0 : Int32} (h : (zQ [] [(3, 69, 88), (3, 98, 170), (3, 172, 279)] [10, 11] [(4, 3, 4)]) σ0 σ) : zpc (fX12_digit_20 σ s0) (fun r => (zQ [] [(3, 69, 88), (3, 98, 170), (3, 172, 279)] [10, 11] [(4, 3, 4)]) σ0 (r.1)) := by
  unfold fX12_digit_20
  exact zpc_some h
theorem fW_fX12_digit {σ0 : zSt} {σ : zSt} {x0 : Int32} (h : (zQ [] [(3, 69, 88), (3, 98, 170), (3, 172, 279)] [10, 11] [(4, 3, 4)]) σ0 σ) : zpc (fX12_digit σ x0) (fun r => (zQ [] [(3, 69, 88), (3, 98, 170), (3, 172, 279)] [10, 11] [(4, 3, 4)]) σ0 (r.1)) := by
  unfold fX12_digit
  exact zpc_if (fun _ => fW_fX12_digit_20 h) (fun _ => fW_fX12_digit_20 h)
theorem fW_fX12_patchByte_25 {σ0 : zSt} {σ : zSt} {x2 : Int32} {s0 : Int32} (h : (zQ [] [(3, 69, 88), (3, 98, 170), (3, 172, 279)] [10, 11] [(4, 3, 4)]) σ0 σ) : zpc (fX12_patchByte_25 σ x2 s0) (fun r => (zQ [] [(3, 69, 88), (3, 98, 170), (3, 172, 279)] [10, 11] [(4, 3, 4)]) σ0 (r.1)) := by
  unfold fX12_patchByte_25
  exact zpc_if (fun _ => zpc_bi (fW_fX12_wreg h) (fun σ6 v7 hσ6 => zpc_some hσ6)) (fun _ => zpc_bv (fun v1 _ => zpc_ck (zpc_ck (zpc_bi (fW_fX12_digit h) (fun σ2 v3 hσ2 => zpc_ck (zpc_ck (zpc_bi (fW_fX12_digit hσ2) (fun σ4 v5 hσ4 => zpc_some hσ4))))))))
theorem fW_fX12_patchByte {σ0 : zSt} {σ : zSt} {x1 : Int32} {x2 : Int32} (h : (zQ [] [(3, 69, 88), (3, 98, 170), (3, 172, 279)] [10, 11] [(4, 3, 4)]) σ0 σ) : zpc (fX12_patchByte σ x1 x2) (fun r => (zQ [] [(3, 69, 88), (3, 98, 170), (3, 172, 279)] [10, 11] [(4, 3, 4)]) σ0 (r.1)) := by
  unfold fX12_patchByte
  exact zpc_bi (fW_fX12_isRhythm h) (fun σ8 v9 hσ8 => zpc_if (fun _ => zpc_bi (fW_fX12_wreg hσ8) (fun σ10 v11 hσ10 => fW_fX12_patchByte_25 hσ10)) (fun _ => fW_fX12_patchByte_25 hσ8))
theorem fW_fX12_rate_140 {σ0 : zSt} {σ : zSt} {s0 : Int32} (h : (zQ [] [(3, 69, 88), (3, 98, 170), (3, 172, 279)] [10, 11] [(4, 3, 4)]) σ0 σ) : zpc (fX12_rate_140 σ s0) (fun r => (zQ [] [(3, 69, 88), (3, 98, 170), (3, 172, 279)] [10, 11] [(4, 3, 4)]) σ0 (r.1)) := by
  unfold fX12_rate_140
  exact zpc_some h
theorem fW_fX12_rate_99 {σ0 : zSt} {σ : zSt} {s0 : Int32} (h : (zQ [] [(3, 69, 88), (3, 98, 170), (3, 172, 279)] [10, 11] [(4, 3, 4)]) σ0 σ) : zpc (fX12_rate_99 σ s0) (fun r => (zQ [] [(3, 69, 88), (3, 98, 170), (3, 172, 279)] [10, 11] [(4, 3, 4)]) σ0 (r.1)) := by
  unfold fX12_rate_99
  exact zpc_some h
theorem fW_fX12_rate_17 {σ0 : zSt} {σ : zSt} {x1 : Int32} {x2 : Int32} {x3 : Int32} {s0 : Int32} (h : (zQ [] [(3, 69, 88), (3, 98, 170), (3, 172, 279)] [10, 11] [(4, 3, 4)]) σ0 σ) : zpc (fX12_rate_17 σ x1 x2 x3 s0) (fun r => (zQ [] [(3, 69, 88), (3, 98, 170), (3, 172, 279)] [10, 11] [(4, 3, 4)]) σ0 (r.1)) := by
  unfold fX12_rate_17
  exact zpc_if (fun _ => zpc_some h) (fun _ => zpc_if (fun _ => zpc_bi (fW_fX12_patchByte h) (fun σ1 v2 hσ1 => zpc_some hσ1)) (fun _ => zpc_if (fun _ => zpc_bi (fW_fX12_patchByte h) (fun σ3 v4 hσ3 => zpc_some hσ3)) (fun _ => zpc_if (fun _ => zpc_if (fun _ => zpc_bi (fW_fX12_patchByte h) (fun σ5 v6 hσ5 => fW_fX12_rate_99 hσ5)) (fun _ => fW_fX12_rate_99 h)) (fun _ => zpc_bi (fW_fX12_wreg h) (fun σ7 v8 hσ7 => zpc_if (fun _ => zpc_if (fun _ => fW_fX12_rate_140 hσ7) (fun _ => zpc_bi (fW_fX12_patchByte hσ7) (fun σ9 v10 hσ9 => fW_fX12_rate_140 hσ9))) (fun _ => fW_fX12_rate_140 hσ7))))))
theorem fW_fX12_rate {σ0 : zSt} {σ : zSt} {x1 : Int32} {x2 : Int32} {x3 : Int32} (h : (zQ [] [(3, 69, 88), (3, 98, 170), (3, 172, 279)] [10, 11] [(4, 3, 4)]) σ0 σ) : zpc (fX12_rate σ x1 x2 x3) (fun r => (zQ [] [(3, 69, 88), (3, 98, 170), (3, 172, 279)] [10, 11] [(4, 3, 4)]) σ0 (r.1)) := by
  unfold fX12_rate
  exact zpc_bi (fW_fX12_patchByte h) (fun σ11 v12 hσ11 => zpc_if (fun _ => fW_fX12_rate_17 hσ11) (fun _ => fW_fX12_rate_17 hσ11))
theorem fW_fX12_block {σ0 : zSt} {σ : zSt} {x1 : Int32} (h : (zQ [] [(3, 69, 88), (3, 98, 170), (3, 172, 279)] [10, 11] [(4, 3, 4)]) σ0 σ) : zpc (fX12_block σ x1) (fun r => (zQ [] [(3, 69, 88), (3, 98, 170), (3, 172, 279)] [10, 11] [(4, 3, 4)]) σ0 (r.1)) := by
  unfold fX12_block
  exact zpc_bi (fW_fX12_wreg h) (fun σ1 v2 hσ1 => zpc_some hσ1)
theorem fW_fX12_f {σ0 : zSt} {σ : zSt} {x1 : Int32} (h : (zQ [] [(3, 69, 88), (3, 98, 170), (3, 172, 279)] [10, 11] [(4, 3, 4)]) σ0 σ) : zpc (fX12_f σ x1) (fun r => (zQ [] [(3, 69, 88), (3, 98, 170), (3, 172, 279)] [10, 11] [(4, 3, 4)]) σ0 (r.1)) := by
  unfold fX12_f
  exact zpc_bi (fW_fX12_wreg h) (fun σ1 v2 hσ1 => zpc_bi (fW_fX12_wreg hσ1) (fun σ3 v4 hσ3 => zpc_some hσ3))
theorem fW_fX12_t_40 {σ0 : zSt} {σ : zSt} {s0 : Int32} (h : (zQ [] [(3, 69, 88), (3, 98, 170), (3, 172, 279)] [10, 11] [(4, 3, 4)]) σ0 σ) : zpc (fX12_t_40 σ s0) (fun r => (zQ [] [(3, 69, 88), (3, 98, 170), (3, 172, 279)] [10, 11] [(4, 3, 4)]) σ0 (r.1)) := by
  unfold fX12_t_40
  exact zpc_some h
theorem fW_fX12_t_35 {σ0 : zSt} {σ : zSt} (h : (zQ [] [(3, 69, 88), (3, 98, 170), (3, 172, 279)] [10, 11] [(4, 3, 4)]) σ0 σ) : zpc (fX12_t_35 σ) (fun r => (zQ [] [(3, 69, 88), (3, 98, 170), (3, 172, 279)] [10, 11] [(4, 3, 4)]) σ0 (r.1)) := by
  unfold fX12_t_35
  exact fW_fX12_t_40 h
theorem fW_fX12_t_39 {σ0 : zSt} {σ : zSt} (h : (zQ [] [(3, 69, 88), (3, 98, 170), (3, 172, 279)] [10, 11] [(4, 3, 4)]) σ0 σ) : zpc (fX12_t_39 σ) (fun r => (zQ [] [(3, 69, 88), (3, 98, 170), (3, 172, 279)] [10, 11] [(4, 3, 4)]) σ0 (r.1)) := by
  unfold fX12_t_39
  exact fW_fX12_t_40 h
theorem fW_fX12_t_19 {σ0 : zSt} {σ : zSt} {x0 : Int32} {x1 : Int32} (h : (zQ [] [(3, 69, 88), (3, 98, 170), (3, 172, 279)] [10, 11] [(4, 3, 4)]) σ0 σ) : zpc (fX12_t_19 σ x0 x1) (fun r => (zQ [] [(3, 69, 88), (3, 98, 170), (3, 172, 279)] [10, 11] [(4, 3, 4)]) σ0 (r.1)) := by
  unfold fX12_t_19
  exact zpc_if (fun _ => fW_fX12_t_39 h) (fun _ => zpc_if (fun _ => fW_fX12_t_35 h) (fun _ => zpc_if (fun _ => fW_fX12_t_35 h) (fun _ => fW_fX12_t_39 h)))
theorem fW_fX12_t {σ0 : zSt} {σ : zSt} {x0 : Int32} {x1 : Int32} (h : (zQ [] [(3, 69, 88), (3, 98, 170), (3, 172, 279)] [10, 11] [(4, 3, 4)]) σ0 σ) : zpc (fX12_t σ x0 x1) (fun r => (zQ [] [(3, 69, 88), (3, 98, 170), (3, 172, 279)] [10, 11] [(4, 3, 4)]) σ0 (r.1)) := by
  unfold fX12_t
  exact zpc_ck (zpc_if (fun _ => fW_fX12_t_35 h) (fun _ => zpc_ck (zpc_if (fun _ => zpc_if (fun _ => fW_fX12_t_35 h) (fun _ => fW_fX12_t_19 h)) (fun _ => fW_fX12_t_19 h))))
theorem fW_fX12_envelope_275 {σ0 : zSt} {σ : zSt} {s0 : Int32} {s1 : Int32} (h : (zQ [] [(3, 69, 88), (3, 98, 170), (3, 172, 279)] [10, 11] [(4, 3, 4)]) σ0 σ) (qs1 : zr 172 274 s1) : zpc (fX12_envelope_275 σ s0 s1) (fun r => (zQ [] [(3, 69, 88), (3, 98, 170), (3, 172, 279)] [10, 11] [(4, 3, 4)]) σ0 (r)) := by
  unfold fX12_envelope_275
  exact zpc_ck (zpc_bs (zQ.wr (a := 172) (b := 279) (lo := 172) (hi := 274) h qs1 rfl (by decide)) (fun σ1 hσ1 => zpc_some hσ1))
theorem fW_fX12_envelope_259 {σ0 : zSt} {σ : zSt} {x1 : Int32} {x15 : Int32} (h : (zQ [] [(3, 69, 88), (3, 98, 170), (3, 172, 279)] [10, 11] [(4, 3, 4)]) σ0 σ) (qx1 : zr 172 274 x1) : zpc (fX12_envelope_259 σ x1 x15) (fun r => (zQ [] [(3, 69, 88), (3, 98, 170), (3, 172, 279)] [10, 11] [(4, 3, 4)]) σ0 (r)) := by
  unfold fX12_envelope_259
  exact zpc_if (fun _ => fW_fX12_envelope_275 h qx1) (fun _ => fW_fX12_envelope_275 h qx1)
theorem fW_fX12_envelope_220 {σ0 : zSt} {σ : zSt} {x1 : Int32} {s0 : Int32} (h : (zQ [] [(3, 69, 88), (3, 98, 170), (3, 172, 279)] [10, 11] [(4, 3, 4)]) σ0 σ) (qx1 : zr 172 274 x1) : zpc (fX12_envelope_220 σ x1 s0) (fun r => (zQ [] [(3, 69, 88), (3, 98, 170), (3, 172, 279)] [10, 11] [(4, 3, 4)]) σ0 (r)) := by
  unfold fX12_envelope_220
  exact fW_fX12_envelope_259 h qx1
theorem fW_fX12_envelope_257 {σ0 : zSt} {σ : zSt} {x1 : Int32} {s0 : Int32} (h : (zQ [] [(3, 69, 88), (3, 98, 170), (3, 172, 279)] [10, 11] [(4, 3, 4)]) σ0 σ) (qx1 : zr 172 274 x1) : zpc (fX12_envelope_257 σ x1 s0) (fun r => (zQ [] [(3, 69, 88), (3, 98, 170), (3, 172, 279)] [10, 11] [(4, 3, 4)]) σ0 (r)) := by
  unfold fX12_envelope_257
  exact fW_fX12_envelope_259 h qx1
theorem fW_fX12_envelope_358 {σ0 : zSt} {σ : zSt} {s0 : Int32} {s1 : Int32} (h : (zQ [] [(3, 69, 88), (3, 98, 170), (3, 172, 279)] [10, 11] [(4, 3, 4)]) σ0 σ) (qs1 : zr 172 274 s1) : zpc (fX12_envelope_358 σ s0 s1) (fun r => (zQ [] [(3, 69, 88), (3, 98, 170), (3, 172, 279)] [10, 11] [(4, 3, 4)]) σ0 (r)) := by
  unfold fX12_envelope_358
  exact zpc_ck (zpc_bs (zQ.wr (a := 172) (b := 279) (lo := 172) (hi := 274) h qs1 rfl (by decide)) (fun σ2 hσ2 => zpc_some hσ2))
theorem fW_fX12_envelope_336 {σ0 : zSt} {σ : zSt} {x1 : Int32} {s0 : Int32} {s1 : Int32} (h : (zQ [] [(3, 69, 88), (3, 98, 170), (3, 172, 279)] [10, 11] [(4, 3, 4)]) σ0 σ) (qx1 : zr 172 274 x1) : zpc (fX12_envelope_336 σ x1 s0 s1) (fun r => (zQ [] [(3, 69, 88), (3, 98, 170), (3, 172, 279)] [10, 11] [(4, 3, 4)]) σ0 (r)) := by
  unfold fX12_envelope_336
  exact zpc_bv (fun v3 _ => zpc_if (fun _ => fW_fX12_envelope_358 h qx1) (fun _ => fW_fX12_envelope_358 h qx1))
theorem fW_fX12_envelope_159 {σ0 : zSt} {σ : zSt} {x1 : Int32} {x4 : Int32} {x7 : Int32} {x8 : Int32} {x9 : Int64} {s0 : Int32} (h : (zQ [] [(3, 69, 88), (3, 98, 170), (3, 172, 279)] [10, 11] [(4, 3, 4)]) σ0 σ) (qx1 : zr 172 274 x1) : zpc (fX12_envelope_159 σ x1 x4 x7 x8 x9 s0) (fun r => (zQ [] [(3, 69, 88), (3, 98, 170), (3, 172, 279)] [10, 11] [(4, 3, 4)]) σ0 (r)) := by
  unfold fX12_envelope_159
  exact zpc_ck (zpc_ck (zpc_bv (fun v4 _ => zpc_ck (zpc_bv (fun v5 _ => zpc_if (fun _ => zpc_if (fun _ => zpc_if (fun _ => fW_fX12_envelope_257 h qx1) (fun _ => zpc_bi (fW_fX12_t h) (fun σ10 v11 hσ10 => fW_fX12_envelope_257 hσ10 qx1))) (fun _ => zpc_if (fun _ => zpc_ck (fW_fX12_envelope_220 h qx1)) (fun _ => fW_fX12_envelope_220 h qx1))) (fun _ => zpc_if (fun _ => zpc_if (fun _ => zpc_ck (zpc_bi (fW_fX12_t h) (fun σ8 v9 hσ8 => fW_fX12_envelope_336 hσ8 qx1))) (fun _ => zpc_if (fun _ => zpc_bi (fW_fX12_t h) (fun σ6 v7 hσ6 => fW_fX12_envelope_336 hσ6 qx1)) (fun _ => fW_fX12_envelope_336 h qx1))) (fun _ => fW_fX12_envelope_336 h qx1)))))))
theorem fW_fX12_envelope_158 {σ0 : zSt} {σ : zSt} {x1 : Int32} {x4 : Int32} {x7 : Int32} {x8 : Int32} {x9 : Int64} (h : (zQ [] [(3, 69, 88), (3, 98, 170), (3, 172, 279)] [10, 11] [(4, 3, 4)]) σ0 σ) (qx1 : zr 172 274 x1) : zpc (fX12_envelope_158 σ x1 x4 x7 x8 x9) (fun r => (zQ [] [(3, 69, 88), (3, 98, 170), (3, 172, 279)] [10, 11] [(4, 3, 4)]) σ0 (r)) := by
  unfold fX12_envelope_158
  exact fW_fX12_envelope_159 h qx1
theorem fW_fX12_envelope_121 {σ0 : zSt} {σ : zSt} {x1 : Int32} {x4 : Int32} {x7 : Int32} {x8 : Int32} {x9 : Int64} {s0 : Int64} (h : (zQ [] [(3, 69, 88), (3, 98, 170), (3, 172, 279)] [10, 11] [(4, 3, 4)]) σ0 σ) (qx1 : zr 172 274 x1) : zpc (fX12_envelope_121 σ x1 x4 x7 x8 x9 s0) (fun r => (zQ [] [(3, 69, 88), (3, 98, 170), (3, 172, 279)] [10, 11] [(4, 3, 4)]) σ0 (r)) := by
  unfold fX12_envelope_121
  exact zpc_if (fun _ => fW_fX12_envelope_158 h qx1) (fun _ => zpc_ck (zpc_if (fun _ => zpc_ck (zpc_ck (zpc_bi (fW_fX12_t h) (fun σ12 v13 hσ12 => fW_fX12_envelope_159 hσ12 qx1)))) (fun _ => fW_fX12_envelope_158 h qx1)))
theorem fW_fX12_envelope_87 {σ0 : zSt} {σ : zSt} {x1 : Int32} {x4 : Int32} {x6 : Int32} {s0 : Int32} (h : (zQ [] [(3, 69, 88), (3, 98, 170), (3, 172, 279)] [10, 11] [(4, 3, 4)]) σ0 σ) (qx1 : zr 172 274 x1) : zpc (fX12_envelope_87 σ x1 x4 x6 s0) (fun r => (zQ [] [(3, 69, 88), (3, 98, 170), (3, 172, 279)] [10, 11] [(4, 3, 4)]) σ0 (r)) := by
  unfold fX12_envelope_87
  exact zpc_ck (zpc_bv (fun v14 _ => zpc_ck (zpc_bv (fun v15 _ => zpc_if (fun _ => fW_fX12_envelope_121 h qx1) (fun _ => fW_fX12_envelope_121 h qx1)))))
theorem fW_fX12_envelope_63 {σ0 : zSt} {σ : zSt} {x1 : Int32} {x4 : Int32} {x5 : Int32} {x6 : Int32} (h : (zQ [] [(3, 69, 88), (3, 98, 170), (3, 172, 279)] [10, 11] [(4, 3, 4)]) σ0 σ) (qx1 : zr 172 274 x1) : zpc (fX12_envelope_63 σ x1 x4 x5 x6) (fun r => (zQ [] [(3, 69, 88), (3, 98, 170), (3, 172, 279)] [10, 11] [(4, 3, 4)]) σ0 (r)) := by
  unfold fX12_envelope_63
  exact zpc_ck (zpc_if (fun _ => zpc_ck (fW_fX12_envelope_87 h qx1)) (fun _ => fW_fX12_envelope_87 h qx1))
theorem fW_fX12_envelope {σ0 : zSt} {σ : zSt} {x1 : Int32} {x2 : Int32} {x3 : Int32} (h : (zQ [] [(3, 69, 88), (3, 98, 170), (3, 172, 279)] [10, 11] [(4, 3, 4)]) σ0 σ) (qx1 : zr 172 274 x1) : zpc (fX12_envelope σ x1 x2 x3) (fun r => (zQ [] [(3, 69, 88), (3, 98, 170), (3, 172, 279)] [10, 11] [(4, 3, 4)]) σ0 (r)) := by
  unfold fX12_envelope
  exact zpc_ck (zpc_bv (fun v16 _ => zpc_bi (fW_fX12_rate h) (fun σ17 v18 hσ17 => zpc_if (fun _ => zpc_some hσ17) (fun _ => zpc_bi (fW_fX12_block hσ17) (fun σ19 v20 hσ19 => zpc_bi (fW_fX12_f hσ19) (fun σ21 v22 hσ21 => zpc_ck (zpc_bv (fun v23 _ => zpc_bi (fW_fX12_patchByte hσ21) (fun σ24 v25 hσ24 => zpc_if (fun _ => zpc_ck (zpc_bv (fun v26 _ => fW_fX12_envelope_63 hσ24 qx1))) (fun _ => fW_fX12_envelope_63 hσ24 qx1))))))))))
theorem fW_fX12_phase_150 {σ0 : zSt} {σ : zSt} {x1 : Int32} {x2 : Int32} {x5 : Int32} {x6 : Int32} (h : (zQ [] [(3, 69, 88), (3, 98, 170), (3, 172, 279)] [10, 11] [(4, 3, 4)]) σ0 σ) (qx1 : zr 172 274 x1) : zpc (fX12_phase_150 σ x1 x2 x5 x6) (fun r => (zQ [] [(3, 69, 88), (3, 98, 170), (3, 172, 279)] [10, 11] [(4, 3, 4)]) σ0 (r)) := by
  unfold fX12_phase_150
  exact zpc_ck (zpc_bi (fW_fX12_f h) (fun σ1 v2 hσ1 => zpc_bi (fW_fX12_block hσ1) (fun σ3 v4 hσ3 => zpc_ck (zpc_ck (zpc_bs (zQ.wr (a := 172) (b := 279) (lo := 174) (hi := 276) hσ3 (zr_add (lo := 174) (hi := 276) qx1 (zr_c (x := 2) (lo := 2) (hi := 2) (by decide)) (by decide)) rfl (by decide)) (fun σ5 hσ5 => zpc_some hσ5))))))
theorem fW_fX12_phase_148 {σ0 : zSt} {σ : zSt} {x1 : Int32} {x2 : Int32} {x5 : Int32} {s0 : Int32} (h : (zQ [] [(3, 69, 88), (3, 98, 170), (3, 172, 279)] [10, 11] [(4, 3, 4)]) σ0 σ) (qx1 : zr 172 274 x1) : zpc (fX12_phase_148 σ x1 x2 x5 s0) (fun r => (zQ [] [(3, 69, 88), (3, 98, 170), (3, 172, 279)] [10, 11] [(4, 3, 4)]) σ0 (r)) := by
  unfold fX12_phase_148
  exact fW_fX12_phase_150 h qx1
theorem fW_fX12_phase_132 {σ0 : zSt} {σ : zSt} {x1 : Int32} {x2 : Int32} {x5 : Int32} {x7 : Int32} {s0 : Int32} (h : (zQ [] [(3, 69, 88), (3, 98, 170), (3, 172, 279)] [10, 11] [(4, 3, 4)]) σ0 σ) (qx1 : zr 172 274 x1) : zpc (fX12_phase_132 σ x1 x2 x5 x7 s0) (fun r => (zQ [] [(3, 69, 88), (3, 98, 170), (3, 172, 279)] [10, 11] [(4, 3, 4)]) σ0 (r)) := by
  unfold fX12_phase_132
  exact zpc_if (fun _ => fW_fX12_phase_148 h qx1) (fun _ => fW_fX12_phase_148 h qx1)
theorem fW_fX12_phase_60 {σ0 : zSt} {σ : zSt} {x1 : Int32} {x2 : Int32} {x3 : Int32} {s0 : Int32} (h : (zQ [] [(3, 69, 88), (3, 98, 170), (3, 172, 279)] [10, 11] [(4, 3, 4)]) σ0 σ) (qx1 : zr 172 274 x1) : zpc (fX12_phase_60 σ x1 x2 x3 s0) (fun r => (zQ [] [(3, 69, 88), (3, 98, 170), (3, 172, 279)] [10, 11] [(4, 3, 4)]) σ0 (r)) := by
  unfold fX12_phase_60
  exact zpc_bi (fW_fX12_patchByte h) (fun σ6 v7 hσ6 => zpc_if (fun _ => fW_fX12_phase_150 hσ6 qx1) (fun _ => zpc_ck (zpc_ck (zpc_ck (zpc_bv (fun v8 _ => zpc_bi (fW_fX12_f hσ6) (fun σ9 v10 hσ9 => zpc_ck (zpc_bv (fun v11 _ => zpc_ck (zpc_if (fun _ => fW_fX12_phase_132 hσ9 qx1) (fun _ => zpc_ck (zpc_if (fun _ => fW_fX12_phase_132 hσ9 qx1) (fun _ => zpc_ck (fW_fX12_phase_132 hσ9 qx1))))))))))))))
theorem fW_fX12_phase {σ0 : zSt} {σ : zSt} {x1 : Int32} {x2 : Int32} {x3 : Int32} (h : (zQ [] [(3, 69, 88), (3, 98, 170), (3, 172, 279)] [10, 11] [(4, 3, 4)]) σ0 σ) (qx1 : zr 172 274 x1) : zpc (fX12_phase σ x1 x2 x3) (fun r => (zQ [] [(3, 69, 88), (3, 98, 170), (3, 172, 279)] [10, 11] [(4, 3, 4)]) σ0 (r)) := by
  unfold fX12_phase
  exact zpc_bi (fW_fX12_patchByte h) (fun σ12 v13 hσ12 => zpc_bv (fun v14 _ => zpc_if (fun _ => fW_fX12_phase_60 hσ12 qx1) (fun _ => zpc_if (fun _ => zpc_if (fun _ => fW_fX12_phase_60 hσ12 qx1) (fun _ => zpc_if (fun _ => fW_fX12_phase_60 hσ12 qx1) (fun _ => fW_fX12_phase_60 hσ12 qx1))) (fun _ => fW_fX12_phase_60 hσ12 qx1))))
theorem fW_fX12_drum_191 {σ0 : zSt} {σ : zSt} {s0 : Int32} (h : (zQ [] [(3, 69, 88), (3, 98, 170), (3, 172, 279)] [10, 11] [(4, 3, 4)]) σ0 σ) : zpc (fX12_drum_191 σ s0) (fun r => (zQ [] [(3, 69, 88), (3, 98, 170), (3, 172, 279)] [10, 11] [(4, 3, 4)]) σ0 (r.1)) := by
  unfold fX12_drum_191
  exact zpc_some h
theorem fW_fX12_drum_214 {σ0 : zSt} {σ : zSt} {s0 : Int32} (h : (zQ [] [(3, 69, 88), (3, 98, 170), (3, 172, 279)] [10, 11] [(4, 3, 4)]) σ0 σ) : zpc (fX12_drum_214 σ s0) (fun r => (zQ [] [(3, 69, 88), (3, 98, 170), (3, 172, 279)] [10, 11] [(4, 3, 4)]) σ0 (r.1)) := by
  unfold fX12_drum_214
  exact zpc_some h
theorem fW_fX12_drum_148 {σ0 : zSt} {σ : zSt} {x1 : Int32} {x2 : Int32} {x3 : Int32} {x6 : Int32} {x7 : Int32} (h : (zQ [] [(3, 69, 88), (3, 98, 170), (3, 172, 279)] [10, 11] [(4, 3, 4)]) σ0 σ) : zpc (fX12_drum_148 σ x1 x2 x3 x6 x7) (fun r => (zQ [] [(3, 69, 88), (3, 98, 170), (3, 172, 279)] [10, 11] [(4, 3, 4)]) σ0 (r.1)) := by
  unfold fX12_drum_148
  exact zpc_if (fun _ => zpc_if (fun _ => zpc_if (fun _ => fW_fX12_drum_191 h) (fun _ => fW_fX12_drum_191 h)) (fun _ => zpc_if (fun _ => fW_fX12_drum_191 h) (fun _ => fW_fX12_drum_191 h))) (fun _ => zpc_if (fun _ => fW_fX12_drum_214 h) (fun _ => zpc_if (fun _ => fW_fX12_drum_214 h) (fun _ => fW_fX12_drum_214 h)))
theorem fW_fX12_drum_147 {σ0 : zSt} {σ : zSt} {s0 : Int32} (h : (zQ [] [(3, 69, 88), (3, 98, 170), (3, 172, 279)] [10, 11] [(4, 3, 4)]) σ0 σ) : zpc (fX12_drum_147 σ s0) (fun r => (zQ [] [(3, 69, 88), (3, 98, 170), (3, 172, 279)] [10, 11] [(4, 3, 4)]) σ0 (r.1)) := by
  unfold fX12_drum_147
  exact zpc_some h
theorem fW_fX12_drum_100 {σ0 : zSt} {σ : zSt} {x1 : Int32} {x2 : Int32} {x3 : Int32} {x6 : Int32} {s0 : Int32} (h : (zQ [] [(3, 69, 88), (3, 98, 170), (3, 172, 279)] [10, 11] [(4, 3, 4)]) σ0 σ) : zpc (fX12_drum_100 σ x1 x2 x3 x6 s0) (fun r => (zQ [] [(3, 69, 88), (3, 98, 170), (3, 172, 279)] [10, 11] [(4, 3, 4)]) σ0 (r.1)) := by
  unfold fX12_drum_100
  exact zpc_if (fun _ => zpc_if (fun _ => zpc_if (fun _ => zpc_if (fun _ => fW_fX12_drum_147 h) (fun _ => fW_fX12_drum_147 h)) (fun _ => zpc_if (fun _ => fW_fX12_drum_147 h) (fun _ => fW_fX12_drum_147 h))) (fun _ => fW_fX12_drum_148 h)) (fun _ => fW_fX12_drum_148 h)
theorem fW_fX12_drum_79 {σ0 : zSt} {σ : zSt} {x1 : Int32} {x2 : Int32} {x3 : Int32} {s0 : Int32} (h : (zQ [] [(3, 69, 88), (3, 98, 170), (3, 172, 279)] [10, 11] [(4, 3, 4)]) σ0 σ) : zpc (fX12_drum_79 σ x1 x2 x3 s0) (fun r => (zQ [] [(3, 69, 88), (3, 98, 170), (3, 172, 279)] [10, 11] [(4, 3, 4)]) σ0 (r.1)) := by
  unfold fX12_drum_79
  exact zpc_ck (zpc_if (fun _ => fW_fX12_drum_100 h) (fun _ => fW_fX12_drum_100 h))
theorem fW_fX12_drum_74 {σ0 : zSt} {σ : zSt} {x1 : Int32} {x2 : Int32} {x3 : Int32} (h : (zQ [] [(3, 69, 88), (3, 98, 170), (3, 172, 279)] [10, 11] [(4, 3, 4)]) σ0 σ) : zpc (fX12_drum_74 σ x1 x2 x3) (fun r => (zQ [] [(3, 69, 88), (3, 98, 170), (3, 172, 279)] [10, 11] [(4, 3, 4)]) σ0 (r.1)) := by
  unfold fX12_drum_74
  exact fW_fX12_drum_79 h
theorem fW_fX12_drum {σ0 : zSt} {σ : zSt} {x1 : Int32} {x2 : Int32} {x3 : Int32} (h : (zQ [] [(3, 69, 88), (3, 98, 170), (3, 172, 279)] [10, 11] [(4, 3, 4)]) σ0 σ) : zpc (fX12_drum σ x1 x2 x3) (fun r => (zQ [] [(3, 69, 88), (3, 98, 170), (3, 172, 279)] [10, 11] [(4, 3, 4)]) σ0 (r.1)) := by
  unfold fX12_drum
  exact zpc_ck (zpc_ck (zpc_bv (fun v1 _ => zpc_ck (zpc_ck (zpc_bv (fun v2 _ => zpc_if (fun _ => zpc_if (fun _ => zpc_if (fun _ => fW_fX12_drum_79 h) (fun _ => fW_fX12_drum_74 h)) (fun _ => fW_fX12_drum_74 h)) (fun _ => fW_fX12_drum_74 h)))))))
theorem fW_fX12_kept_97 {σ0 : zSt} {σ : zSt} {s0 : Int32} (h : (zQ [] [(3, 69, 88), (3, 98, 170), (3, 172, 279)] [10, 11] [(4, 3, 4)]) σ0 σ) : zpc (fX12_kept_97 σ s0) (fun r => (zQ [] [(3, 69, 88), (3, 98, 170), (3, 172, 279)] [10, 11] [(4, 3, 4)]) σ0 (r.1)) := by
  unfold fX12_kept_97
  exact zpc_some h
theorem fW_fX12_kept {σ0 : zSt} {σ : zSt} {x0 : Int32} (h : (zQ [] [(3, 69, 88), (3, 98, 170), (3, 172, 279)] [10, 11] [(4, 3, 4)]) σ0 σ) : zpc (fX12_kept σ x0) (fun r => (zQ [] [(3, 69, 88), (3, 98, 170), (3, 172, 279)] [10, 11] [(4, 3, 4)]) σ0 (r.1)) := by
  unfold fX12_kept
  exact zpc_if (fun _ => fW_fX12_kept_97 h) (fun _ => zpc_if (fun _ => fW_fX12_kept_97 h) (fun _ => zpc_if (fun _ => fW_fX12_kept_97 h) (fun _ => zpc_if (fun _ => fW_fX12_kept_97 h) (fun _ => zpc_if (fun _ => fW_fX12_kept_97 h) (fun _ => zpc_if (fun _ => fW_fX12_kept_97 h) (fun _ => zpc_if (fun _ => fW_fX12_kept_97 h) (fun _ => zpc_if (fun _ => fW_fX12_kept_97 h) (fun _ => zpc_if (fun _ => fW_fX12_kept_97 h) (fun _ => fW_fX12_kept_97 h)))))))))
theorem fW_fX12_waveAt_376 {σ0 : zSt} {σ : zSt} {s0 : Int32} (h : (zQ [] [(3, 69, 88), (3, 98, 170), (3, 172, 279)] [10, 11] [(4, 3, 4)]) σ0 σ) : zpc (fX12_waveAt_376 σ s0) (fun r => (zQ [] [(3, 69, 88), (3, 98, 170), (3, 172, 279)] [10, 11] [(4, 3, 4)]) σ0 (r.1)) := by
  unfold fX12_waveAt_376
  exact zpc_some h
theorem fW_fX12_waveAt_296 {σ0 : zSt} {σ : zSt} {x2 : Int32} {x3 : Int32} {x4 : Int32} {x5 : Int32} {s0 : Int32} (h : (zQ [] [(3, 69, 88), (3, 98, 170), (3, 172, 279)] [10, 11] [(4, 3, 4)]) σ0 σ) : zpc (fX12_waveAt_296 σ x2 x3 x4 x5 s0) (fun r => (zQ [] [(3, 69, 88), (3, 98, 170), (3, 172, 279)] [10, 11] [(4, 3, 4)]) σ0 (r.1)) := by
  unfold fX12_waveAt_296
  exact zpc_ck (zpc_bv (fun v1 _ => zpc_ck (zpc_ck (zpc_ck (zpc_bv (fun v2 _ => zpc_if (fun _ => zpc_some h) (fun _ => zpc_bi (fW_fX12_patchByte h) (fun σ3 v4 hσ3 => zpc_if (fun _ => fW_fX12_waveAt_376 hσ3) (fun _ => fW_fX12_waveAt_376 hσ3)))))))))
theorem fW_fX12_waveAt_263 {σ0 : zSt} {σ : zSt} {x1 : Int32} {x2 : Int32} {x3 : Int32} {x4 : Int32} {x5 : Int32} {x8 : Int32} {x11 : Int32} {s0 : Int32} (h : (zQ [] [(3, 69, 88), (3, 98, 170), (3, 172, 279)] [10, 11] [(4, 3, 4)]) σ0 σ) : zpc (fX12_waveAt_263 σ x1 x2 x3 x4 x5 x8 x11 s0) (fun r => (zQ [] [(3, 69, 88), (3, 98, 170), (3, 172, 279)] [10, 11] [(4, 3, 4)]) σ0 (r.1)) := by
  unfold fX12_waveAt_263
  exact zpc_ck (zpc_bv (fun v5 _ => zpc_if (fun _ => fW_fX12_waveAt_296 h) (fun _ => fW_fX12_waveAt_296 h)))
theorem fW_fX12_waveAt_260 {σ0 : zSt} {σ : zSt} {x1 : Int32} {x2 : Int32} {x3 : Int32} {x4 : Int32} {x5 : Int32} {x8 : Int32} {x11 : Int32} {s0 : Int32} (h : (zQ [] [(3, 69, 88), (3, 98, 170), (3, 172, 279)] [10, 11] [(4, 3, 4)]) σ0 σ) : zpc (fX12_waveAt_260 σ x1 x2 x3 x4 x5 x8 x11 s0) (fun r => (zQ [] [(3, 69, 88), (3, 98, 170), (3, 172, 279)] [10, 11] [(4, 3, 4)]) σ0 (r.1)) := by
  unfold fX12_waveAt_260
  exact zpc_ck (fW_fX12_waveAt_263 h)
theorem fW_fX12_waveAt_206 {σ0 : zSt} {σ : zSt} {x1 : Int32} {x2 : Int32} {x3 : Int32} {x4 : Int32} {x5 : Int32} {x8 : Int32} {s0 : Int32} (h : (zQ [] [(3, 69, 88), (3, 98, 170), (3, 172, 279)] [10, 11] [(4, 3, 4)]) σ0 σ) : zpc (fX12_waveAt_206 σ x1 x2 x3 x4 x5 x8 s0) (fun r => (zQ [] [(3, 69, 88), (3, 98, 170), (3, 172, 279)] [10, 11] [(4, 3, 4)]) σ0 (r.1)) := by
  unfold fX12_waveAt_206
  exact zpc_ck (zpc_ck (zpc_ck (zpc_bv (fun v6 _ => zpc_bi (fW_fX12_patchByte h) (fun σ7 v8 hσ7 => zpc_if (fun _ => fW_fX12_waveAt_263 hσ7) (fun _ => zpc_if (fun _ => fW_fX12_waveAt_260 hσ7) (fun _ => fW_fX12_waveAt_260 hσ7)))))))
theorem fW_fX12_waveAt_192 {σ0 : zSt} {σ : zSt} {x1 : Int32} {x2 : Int32} {x3 : Int32} {x4 : Int32} {x5 : Int32} {x8 : Int32} {x9 : Int32} (h : (zQ [] [(3, 69, 88), (3, 98, 170), (3, 172, 279)] [10, 11] [(4, 3, 4)]) σ0 σ) : zpc (fX12_waveAt_192 σ x1 x2 x3 x4 x5 x8 x9) (fun r => (zQ [] [(3, 69, 88), (3, 98, 170), (3, 172, 279)] [10, 11] [(4, 3, 4)]) σ0 (r.1)) := by
  unfold fX12_waveAt_192
  exact zpc_ck (zpc_ck (fW_fX12_waveAt_206 h))
theorem fW_fX12_waveAt_123 {σ0 : zSt} {σ : zSt} {x1 : Int32} {x2 : Int32} {x3 : Int32} {x4 : Int32} {x5 : Int32} {s0 : Int32} (h : (zQ [] [(3, 69, 88), (3, 98, 170), (3, 172, 279)] [10, 11] [(4, 3, 4)]) σ0 σ) : zpc (fX12_waveAt_123 σ x1 x2 x3 x4 x5 s0) (fun r => (zQ [] [(3, 69, 88), (3, 98, 170), (3, 172, 279)] [10, 11] [(4, 3, 4)]) σ0 (r.1)) := by
  unfold fX12_waveAt_123
  exact zpc_bi (fW_fX12_patchByte h) (fun σ9 v10 hσ9 => zpc_bv (fun v11 _ => zpc_bi (fW_fX12_wreg hσ9) (fun σ12 v13 hσ12 => zpc_bv (fun v14 _ => zpc_if (fun _ => fW_fX12_waveAt_206 hσ12) (fun _ => zpc_bi (fW_fX12_isRhythm hσ12) (fun σ15 v16 hσ15 => zpc_if (fun _ => fW_fX12_waveAt_192 hσ15) (fun _ => zpc_if (fun _ => fW_fX12_waveAt_192 hσ15) (fun _ => zpc_bi (fW_fX12_wreg hσ15) (fun σ17 v18 hσ17 => fW_fX12_waveAt_206 hσ17)))))))))
theorem fW_fX12_waveAt_91 {σ0 : zSt} {σ : zSt} {x1 : Int32} {x2 : Int32} {x3 : Int32} {x4 : Int32} {x5 : Int32} (h : (zQ [] [(3, 69, 88), (3, 98, 170), (3, 172, 279)] [10, 11] [(4, 3, 4)]) σ0 σ) : zpc (fX12_waveAt_91 σ x1 x2 x3 x4 x5) (fun r => (zQ [] [(3, 69, 88), (3, 98, 170), (3, 172, 279)] [10, 11] [(4, 3, 4)]) σ0 (r.1)) := by
  unfold fX12_waveAt_91
  exact fW_fX12_waveAt_123 h
theorem fW_fX12_waveAt_41 {σ0 : zSt} {σ : zSt} {x1 : Int32} {x2 : Int32} {x3 : Int32} {x4 : Int32} {s0 : Int32} (h : (zQ [] [(3, 69, 88), (3, 98, 170), (3, 172, 279)] [10, 11] [(4, 3, 4)]) σ0 σ) : zpc (fX12_waveAt_41 σ x1 x2 x3 x4 s0) (fun r => (zQ [] [(3, 69, 88), (3, 98, 170), (3, 172, 279)] [10, 11] [(4, 3, 4)]) σ0 (r.1)) := by
  unfold fX12_waveAt_41
  exact zpc_bi (fW_fX12_patchByte h) (fun σ19 v20 hσ19 => zpc_bv (fun v21 _ => zpc_bi (fW_fX12_f hσ19) (fun σ22 v23 hσ22 => zpc_ck (zpc_bi (fW_fX12_kept hσ22) (fun σ24 v25 hσ24 => zpc_bi (fW_fX12_block hσ24) (fun σ26 v27 hσ26 => zpc_bv (fun v28 _ => zpc_if (fun _ => fW_fX12_waveAt_91 hσ26) (fun _ => zpc_if (fun _ => fW_fX12_waveAt_91 hσ26) (fun _ => zpc_if (fun _ => zpc_ck (fW_fX12_waveAt_123 hσ26)) (fun _ => zpc_if (fun _ => zpc_ck (fW_fX12_waveAt_123 hσ26)) (fun _ => fW_fX12_waveAt_123 hσ26)))))))))))
theorem fW_fX12_waveAt {σ0 : zSt} {σ : zSt} {x1 : Int32} {x2 : Int32} {x3 : Int32} {x4 : Int32} (h : (zQ [] [(3, 69, 88), (3, 98, 170), (3, 172, 279)] [10, 11] [(4, 3, 4)]) σ0 σ) : zpc (fX12_waveAt σ x1 x2 x3 x4) (fun r => (zQ [] [(3, 69, 88), (3, 98, 170), (3, 172, 279)] [10, 11] [(4, 3, 4)]) σ0 (r.1)) := by
  unfold fX12_waveAt
  exact zpc_ck (zpc_if (fun _ => zpc_if (fun _ => zpc_ck (fW_fX12_waveAt_41 h)) (fun _ => zpc_ck (fW_fX12_waveAt_41 h))) (fun _ => zpc_some h))
theorem fW_fX12_operator_319 {σ0 : zSt} {σ : zSt} {x1 : Int32} {x2 : Int32} {x3 : Int32} {x5 : Int32} {x8 : Int32} (h : (zQ [] [(3, 69, 88), (3, 98, 170), (3, 172, 279)] [10, 11] [(4, 3, 4)]) σ0 σ) (qx3 : zr 172 274 x3) : zpc (fX12_operator_319 σ x1 x2 x3 x5 x8) (fun r => (zQ [] [(3, 69, 88), (3, 98, 170), (3, 172, 279)] [10, 11] [(4, 3, 4)]) σ0 (r)) := by
  unfold fX12_operator_319
  exact zpc_ck (zpc_bs (zQ.wr (a := 172) (b := 279) (lo := 176) (hi := 278) h (zr_add (lo := 176) (hi := 278) qx3 (zr_c (x := 4) (lo := 4) (hi := 4) (by decide)) (by decide)) rfl (by decide)) (fun σ1 hσ1 => zpc_bi (fW_fX12_waveAt hσ1) (fun σ2 v3 hσ2 => zpc_ck (zpc_bs (zQ.wr (a := 172) (b := 279) (lo := 175) (hi := 277) hσ2 (zr_add (lo := 175) (hi := 277) qx3 (zr_c (x := 3) (lo := 3) (hi := 3) (by decide)) (by decide)) rfl (by decide)) (fun σ4 hσ4 => zpc_some hσ4)))))
theorem fW_fX12_operator_266 {σ0 : zSt} {σ : zSt} {x1 : Int32} {x2 : Int32} {x3 : Int32} {x5 : Int32} {s0 : Int32} (h : (zQ [] [(3, 69, 88), (3, 98, 170), (3, 172, 279)] [10, 11] [(4, 3, 4)]) σ0 σ) (qx3 : zr 172 274 x3) : zpc (fX12_operator_266 σ x1 x2 x3 x5 s0) (fun r => (zQ [] [(3, 69, 88), (3, 98, 170), (3, 172, 279)] [10, 11] [(4, 3, 4)]) σ0 (r)) := by
  unfold fX12_operator_266
  exact zpc_ck (zpc_ck (zpc_bv (fun v5 _ => zpc_bi (fW_fX12_isRhythm h) (fun σ6 v7 hσ6 => zpc_if (fun _ => fW_fX12_operator_319 hσ6 qx3) (fun _ => zpc_if (fun _ => fW_fX12_operator_319 hσ6 qx3) (fun _ => zpc_ck (zpc_ck (zpc_bi (fW_fX12_drum hσ6) (fun σ8 v9 hσ8 => fW_fX12_operator_319 hσ8 qx3)))))))))
theorem fW_fX12_operator_190 {σ0 : zSt} {σ : zSt} {x1 : Int32} {x2 : Int32} {x3 : Int32} (h : (zQ [] [(3, 69, 88), (3, 98, 170), (3, 172, 279)] [10, 11] [(4, 3, 4)]) σ0 σ) (qx3 : zr 172 274 x3) : zpc (fX12_operator_190 σ x1 x2 x3) (fun r => (zQ [] [(3, 69, 88), (3, 98, 170), (3, 172, 279)] [10, 11] [(4, 3, 4)]) σ0 (r)) := by
  unfold fX12_operator_190
  exact zpc_bu (fW_fX12_phase h qx3) (fun σ10 hσ10 => zpc_ck (zpc_bv (fun v11 _ => zpc_bi (fW_fX12_patchByte hσ10) (fun σ12 v13 hσ12 => zpc_bv (fun v14 _ => zpc_if (fun _ => zpc_ck (fW_fX12_operator_266 hσ12 qx3)) (fun _ => zpc_if (fun _ => fW_fX12_operator_266 hσ12 qx3) (fun _ => zpc_ck (zpc_ck (fW_fX12_operator_266 hσ12 qx3)))))))))
theorem fW_fX12_operator_146 {σ0 : zSt} {σ : zSt} {x1 : Int32} {x2 : Int32} {x3 : Int32} (h : (zQ [] [(3, 69, 88), (3, 98, 170), (3, 172, 279)] [10, 11] [(4, 3, 4)]) σ0 σ) (qx3 : zr 172 274 x3) : zpc (fX12_operator_146 σ x1 x2 x3) (fun r => (zQ [] [(3, 69, 88), (3, 98, 170), (3, 172, 279)] [10, 11] [(4, 3, 4)]) σ0 (r)) := by
  unfold fX12_operator_146
  exact zpc_ck (zpc_if (fun _ => zpc_ck (zpc_ck (zpc_bi (fW_fX12_patchByte h) (fun σ15 v16 hσ15 => zpc_if (fun _ => fW_fX12_operator_190 hσ15 qx3) (fun _ => zpc_ck (zpc_bs (zQ.wr (a := 172) (b := 279) (lo := 173) (hi := 275) hσ15 (zr_add (lo := 173) (hi := 275) qx3 (zr_c (x := 1) (lo := 1) (hi := 1) (by decide)) (by decide)) rfl (by decide)) (fun σ17 hσ17 => fW_fX12_operator_190 hσ17 qx3))))))) (fun _ => fW_fX12_operator_190 h qx3))
theorem fW_fX12_operator_113 {σ0 : zSt} {σ : zSt} {x1 : Int32} {x2 : Int32} {x3 : Int32} (h : (zQ [] [(3, 69, 88), (3, 98, 170), (3, 172, 279)] [10, 11] [(4, 3, 4)]) σ0 σ) (qx3 : zr 172 274 x3) : zpc (fX12_operator_113 σ x1 x2 x3) (fun r => (zQ [] [(3, 69, 88), (3, 98, 170), (3, 172, 279)] [10, 11] [(4, 3, 4)]) σ0 (r)) := by
  unfold fX12_operator_113
  exact zpc_ck (zpc_if (fun _ => zpc_ck (zpc_if (fun _ => zpc_ck (zpc_bs (zQ.wr (a := 172) (b := 279) (lo := 173) (hi := 275) h (zr_add (lo := 173) (hi := 275) qx3 (zr_c (x := 1) (lo := 1) (hi := 1) (by decide)) (by decide)) rfl (by decide)) (fun σ18 hσ18 => fW_fX12_operator_190 hσ18 qx3))) (fun _ => fW_fX12_operator_146 h qx3))) (fun _ => fW_fX12_operator_146 h qx3))
theorem fW_fX12_operator_53 {σ0 : zSt} {σ : zSt} {x1 : Int32} {x2 : Int32} {x3 : Int32} {x4 : Int32} (h : (zQ [] [(3, 69, 88), (3, 98, 170), (3, 172, 279)] [10, 11] [(4, 3, 4)]) σ0 σ) (qx3 : zr 172 274 x3) : zpc (fX12_operator_53 σ x1 x2 x3 x4) (fun r => (zQ [] [(3, 69, 88), (3, 98, 170), (3, 172, 279)] [10, 11] [(4, 3, 4)]) σ0 (r)) := by
  unfold fX12_operator_53
  exact zpc_ck (zpc_bs (zQ.wr (a := 172) (b := 279) (lo := 177) (hi := 279) h (zr_add (lo := 177) (hi := 279) qx3 (zr_c (x := 5) (lo := 5) (hi := 5) (by decide)) (by decide)) rfl (by decide)) (fun σ19 hσ19 => zpc_bu (fW_fX12_envelope hσ19 qx3) (fun σ20 hσ20 => zpc_ck (zpc_if (fun _ => zpc_ck (zpc_if (fun _ => fW_fX12_operator_113 hσ20 qx3) (fun _ => zpc_ck (zpc_bs (zQ.wr (a := 172) (b := 279) (lo := 173) (hi := 275) hσ20 (zr_add (lo := 173) (hi := 275) qx3 (zr_c (x := 1) (lo := 1) (hi := 1) (by decide)) (by decide)) rfl (by decide)) (fun σ21 hσ21 => zpc_ck (zpc_bs (zQ.wr (a := 172) (b := 279) (lo := 174) (hi := 276) hσ21 (zr_add (lo := 174) (hi := 276) qx3 (zr_c (x := 2) (lo := 2) (hi := 2) (by decide)) (by decide)) rfl (by decide)) (fun σ22 hσ22 => fW_fX12_operator_190 hσ22 qx3))))))) (fun _ => fW_fX12_operator_113 hσ20 qx3)))))
theorem fW_fX12_operator_52 {σ0 : zSt} {σ : zSt} {x1 : Int32} {x2 : Int32} {x3 : Int32} {x4 : Int32} {s0 : Int32} {s1 : Int32} (h : (zQ [] [(3, 69, 88), (3, 98, 170), (3, 172, 279)] [10, 11] [(4, 3, 4)]) σ0 σ) (qx3 : zr 172 274 x3) (qs1 : zr 172 279 s1) : zpc (fX12_operator_52 σ x1 x2 x3 x4 s0 s1) (fun r => (zQ [] [(3, 69, 88), (3, 98, 170), (3, 172, 279)] [10, 11] [(4, 3, 4)]) σ0 (r)) := by
  unfold fX12_operator_52
  exact zpc_ck (zpc_bs (zQ.wr (a := 172) (b := 279) (lo := 172) (hi := 279) h qs1 rfl (by decide)) (fun σ23 hσ23 => fW_fX12_operator_53 hσ23 qx3))
theorem fW_fX12_operator {σ0 : zSt} {σ : zSt} {x1 : Int32} {x2 : Int32} (h : (zQ [] [(3, 69, 88), (3, 98, 170), (3, 172, 279)] [10, 11] [(4, 3, 4)]) σ0 σ) (qx1 : zr 0 8 x1) (qx2 : zr 0 1 x2) : zpc (fX12_operator σ x1 x2) (fun r => (zQ [] [(3, 69, 88), (3, 98, 170), (3, 172, 279)] [10, 11] [(4, 3, 4)]) σ0 (r)) := by
  unfold fX12_operator
  exact zpc_bv (fun v24 ev24 => zpc_bi (fW_fX12_isOn h) (fun σ25 v26 hσ25 => zpc_ck (zpc_if (fun _ => fW_fX12_operator_53 hσ25 (show zr 172 274 v24 by rw [ev24]; exact (zr_add (lo := 172) (hi := 274) (zr_c (x := 172) (lo := 172) (hi := 172) (by decide)) (zr_mul (lo := 0) (hi := 102) (zr_c (x := 6) (lo := 6) (hi := 6) (by decide)) (zr_add (lo := 0) (hi := 17) (zr_mul (lo := 0) (hi := 16) (zr_c (x := 2) (lo := 2) (hi := 2) (by decide)) qx1 (by decide)) qx2 (by decide)) (by decide)) (by decide)))) (fun _ => zpc_if (fun _ => fW_fX12_operator_52 hσ25 (show zr 172 274 v24 by rw [ev24]; exact (zr_add (lo := 172) (hi := 274) (zr_c (x := 172) (lo := 172) (hi := 172) (by decide)) (zr_mul (lo := 0) (hi := 102) (zr_c (x := 6) (lo := 6) (hi := 6) (by decide)) (zr_add (lo := 0) (hi := 17) (zr_mul (lo := 0) (hi := 16) (zr_c (x := 2) (lo := 2) (hi := 2) (by decide)) qx1 (by decide)) qx2 (by decide)) (by decide)) (by decide))) (zr_w (zr_add (lo := 173) (hi := 275) (show zr 172 274 v24 by rw [ev24]; exact (zr_add (lo := 172) (hi := 274) (zr_c (x := 172) (lo := 172) (hi := 172) (by decide)) (zr_mul (lo := 0) (hi := 102) (zr_c (x := 6) (lo := 6) (hi := 6) (by decide)) (zr_add (lo := 0) (hi := 17) (zr_mul (lo := 0) (hi := 16) (zr_c (x := 2) (lo := 2) (hi := 2) (by decide)) qx1 (by decide)) qx2 (by decide)) (by decide)) (by decide))) (zr_c (x := 1) (lo := 1) (hi := 1) (by decide)) (by decide)) (by decide))) (fun _ => fW_fX12_operator_52 hσ25 (show zr 172 274 v24 by rw [ev24]; exact (zr_add (lo := 172) (hi := 274) (zr_c (x := 172) (lo := 172) (hi := 172) (by decide)) (zr_mul (lo := 0) (hi := 102) (zr_c (x := 6) (lo := 6) (hi := 6) (by decide)) (zr_add (lo := 0) (hi := 17) (zr_mul (lo := 0) (hi := 16) (zr_c (x := 2) (lo := 2) (hi := 2) (by decide)) qx1 (by decide)) qx2 (by decide)) (by decide)) (by decide))) (zr_w (zr_add (lo := 173) (hi := 275) (show zr 172 274 v24 by rw [ev24]; exact (zr_add (lo := 172) (hi := 274) (zr_c (x := 172) (lo := 172) (hi := 172) (by decide)) (zr_mul (lo := 0) (hi := 102) (zr_c (x := 6) (lo := 6) (hi := 6) (by decide)) (zr_add (lo := 0) (hi := 17) (zr_mul (lo := 0) (hi := 16) (zr_c (x := 2) (lo := 2) (hi := 2) (by decide)) qx1 (by decide)) qx2 (by decide)) (by decide)) (by decide))) (zr_c (x := 1) (lo := 1) (hi := 1) (by decide)) (by decide)) (by decide)))))))
theorem fW_fX12_waves_20_body {σ0 : zSt} {k12 : zSt → Int32 → Option (zSt)} (hk12 : ∀ (y0 : zSt) (y1 : Int32), (zQ [] [(3, 69, 88), (3, 98, 170), (3, 172, 279)] [10, 11] [(4, 3, 4)]) σ0 y0 → zr 0 9 y1 → zpc (k12 y0 y1) (fun r => (zQ [] [(3, 69, 88), (3, 98, 170), (3, 172, 279)] [10, 11] [(4, 3, 4)]) σ0 (r))) {k20 : zSt → Int32 → Int32 → Option (zSt)} (hk20 : ∀ (y0 : zSt) (y1 : Int32) (y2 : Int32), (zQ [] [(3, 69, 88), (3, 98, 170), (3, 172, 279)] [10, 11] [(4, 3, 4)]) σ0 y0 → zr 0 8 y1 → zr 0 2 y2 → zpc (k20 y0 y1 y2) (fun r => (zQ [] [(3, 69, 88), (3, 98, 170), (3, 172, 279)] [10, 11] [(4, 3, 4)]) σ0 (r))) {σ : zSt} {x1 : Int32} {x2 : Int32} (h : (zQ [] [(3, 69, 88), (3, 98, 170), (3, 172, 279)] [10, 11] [(4, 3, 4)]) σ0 σ) (qx1 : zr 0 8 x1) (qx2 : zr 0 2 x2) : zpc (fX12_waves_20_body k12 k20 σ x1 x2) (fun r => (zQ [] [(3, 69, 88), (3, 98, 170), (3, 172, 279)] [10, 11] [(4, 3, 4)]) σ0 (r)) := by
  unfold fX12_waves_20_body
  exact zpc_if (fun g2 => zpc_bv (fun v1 ev1 => hk12 _ _ h (zr_w (show zr 1 9 v1 by rw [ev1]; exact (zr_add (lo := 1) (hi := 9) qx1 (zr_c (x := 1) (lo := 1) (hi := 1) (by decide)) (by decide))) (by decide)))) (fun g2 => zpc_bu (fW_fX12_operator h qx1 (zr_nge (k := 2) (m := 1) qx2 rfl g2 (by decide))) (fun σ2 hσ2 => zpc_bv (fun v3 ev3 => hk20 _ _ _ hσ2 qx1 (zr_w (show zr 1 2 v3 by rw [ev3]; exact (zr_add (lo := 1) (hi := 2) (zr_nge (k := 2) (m := 1) qx2 rfl g2 (by decide)) (zr_c (x := 1) (lo := 1) (hi := 1) (by decide)) (by decide))) (by decide)))))
theorem fW_fX12_waves_20 {σ0 : zSt} {k12 : zSt → Int32 → Option (zSt)} (hk12 : ∀ (y0 : zSt) (y1 : Int32), (zQ [] [(3, 69, 88), (3, 98, 170), (3, 172, 279)] [10, 11] [(4, 3, 4)]) σ0 y0 → zr 0 9 y1 → zpc (k12 y0 y1) (fun r => (zQ [] [(3, 69, 88), (3, 98, 170), (3, 172, 279)] [10, 11] [(4, 3, 4)]) σ0 (r))) : ∀ (n : Nat) (y0 : zSt) (y1 : Int32) (y2 : Int32), (zQ [] [(3, 69, 88), (3, 98, 170), (3, 172, 279)] [10, 11] [(4, 3, 4)]) σ0 y0 → zr 0 8 y1 → zr 0 2 y2 → zpc (fX12_waves_20 k12 n y0 y1 y2) (fun r => (zQ [] [(3, 69, 88), (3, 98, 170), (3, 172, 279)] [10, 11] [(4, 3, 4)]) σ0 (r)) := by
  intro n
  induction n with
  | zero => intro y0 y1 y2 h q1 q2; exact zpc_none
  | succ n ih => intro y0 y1 y2 h q1 q2; exact fW_fX12_waves_20_body hk12 ih h q1 q2
theorem fW_fX12_waves_157 {σ0 : zSt} {k82 : zSt → Int32 → Int32 → Option (zSt)} (hk82 : ∀ (y0 : zSt) (y1 : Int32) (y2 : Int32), (zQ [] [(3, 69, 88), (3, 98, 170), (3, 172, 279)] [10, 11] [(4, 3, 4)]) σ0 y0 → zpc (k82 y0 y1 y2) (fun r => (zQ [] [(3, 69, 88), (3, 98, 170), (3, 172, 279)] [10, 11] [(4, 3, 4)]) σ0 (r))) {σ : zSt} {x2 : Int32} {x3 : Int32} (h : (zQ [] [(3, 69, 88), (3, 98, 170), (3, 172, 279)] [10, 11] [(4, 3, 4)]) σ0 σ) : zpc (fX12_waves_157 k82 σ x2 x3) (fun r => (zQ [] [(3, 69, 88), (3, 98, 170), (3, 172, 279)] [10, 11] [(4, 3, 4)]) σ0 (r)) := by
  unfold fX12_waves_157
  exact zpc_bv (fun v4 _ => hk82 _ _ _ h)
theorem fW_fX12_waves_153 {σ0 : zSt} {k82 : zSt → Int32 → Int32 → Option (zSt)} (hk82 : ∀ (y0 : zSt) (y1 : Int32) (y2 : Int32), (zQ [] [(3, 69, 88), (3, 98, 170), (3, 172, 279)] [10, 11] [(4, 3, 4)]) σ0 y0 → zpc (k82 y0 y1 y2) (fun r => (zQ [] [(3, 69, 88), (3, 98, 170), (3, 172, 279)] [10, 11] [(4, 3, 4)]) σ0 (r))) {σ : zSt} {x3 : Int32} {s0 : Int32} {s1 : Int32} {s2 : Int32} {s3 : Int32} (h : (zQ [] [(3, 69, 88), (3, 98, 170), (3, 172, 279)] [10, 11] [(4, 3, 4)]) σ0 σ) : zpc (fX12_waves_153 k82 σ x3 s0 s1 s2 s3) (fun r => (zQ [] [(3, 69, 88), (3, 98, 170), (3, 172, 279)] [10, 11] [(4, 3, 4)]) σ0 (r)) := by
  unfold fX12_waves_153
  exact zpc_bv (fun v5 _ => fW_fX12_waves_157 hk82 h)
theorem fW_fX12_waves_82_body {σ0 : zSt} {k82 : zSt → Int32 → Int32 → Option (zSt)} (hk82 : ∀ (y0 : zSt) (y1 : Int32) (y2 : Int32), (zQ [] [(3, 69, 88), (3, 98, 170), (3, 172, 279)] [10, 11] [(4, 3, 4)]) σ0 y0 → zpc (k82 y0 y1 y2) (fun r => (zQ [] [(3, 69, 88), (3, 98, 170), (3, 172, 279)] [10, 11] [(4, 3, 4)]) σ0 (r))) {σ : zSt} {x2 : Int32} {x3 : Int32} (h : (zQ [] [(3, 69, 88), (3, 98, 170), (3, 172, 279)] [10, 11] [(4, 3, 4)]) σ0 σ) : zpc (fX12_waves_82_body k82 σ x2 x3) (fun r => (zQ [] [(3, 69, 88), (3, 98, 170), (3, 172, 279)] [10, 11] [(4, 3, 4)]) σ0 (r)) := by
  unfold fX12_waves_82_body
  exact zpc_if (fun _ => zpc_ck (zpc_bs (zQ.wi h rfl) (fun σ6 hσ6 => zpc_some hσ6))) (fun _ => zpc_bv (fun v7 _ => zpc_bi (fW_fX12_isRhythm h) (fun σ8 v9 hσ8 => zpc_if (fun _ => zpc_ck (zpc_bv (fun v10 _ => fW_fX12_waves_157 hk82 hσ8))) (fun _ => zpc_ck (zpc_if (fun _ => fW_fX12_waves_153 hk82 hσ8) (fun _ => zpc_ck (fW_fX12_waves_153 hk82 hσ8)))))))
theorem fW_fX12_waves_82 {σ0 : zSt} : ∀ (n : Nat) (y0 : zSt) (y1 : Int32) (y2 : Int32), (zQ [] [(3, 69, 88), (3, 98, 170), (3, 172, 279)] [10, 11] [(4, 3, 4)]) σ0 y0 → zpc (fX12_waves_82 n y0 y1 y2) (fun r => (zQ [] [(3, 69, 88), (3, 98, 170), (3, 172, 279)] [10, 11] [(4, 3, 4)]) σ0 (r)) := by
  intro n
  induction n with
  | zero => intro y0 y1 y2 h; exact zpc_none
  | succ n ih => intro y0 y1 y2 h; exact fW_fX12_waves_82_body ih h
theorem fW_fX12_waves_75 {σ0 : zSt} {σ : zSt} {s0 : Int32} {s1 : Int32} (h : (zQ [] [(3, 69, 88), (3, 98, 170), (3, 172, 279)] [10, 11] [(4, 3, 4)]) σ0 σ) (qs1 : zr 164 164 s1) : zpc (fX12_waves_75 σ s0 s1) (fun r => (zQ [] [(3, 69, 88), (3, 98, 170), (3, 172, 279)] [10, 11] [(4, 3, 4)]) σ0 (r)) := by
  unfold fX12_waves_75
  exact zpc_ck (zpc_bs (zQ.wr (a := 98) (b := 170) (lo := 164) (hi := 164) h qs1 rfl (by decide)) (fun σ11 hσ11 => fW_fX12_waves_82 _ _ _ _ hσ11))
theorem fW_fX12_waves_12_body {σ0 : zSt} {k12 : zSt → Int32 → Option (zSt)} (hk12 : ∀ (y0 : zSt) (y1 : Int32), (zQ [] [(3, 69, 88), (3, 98, 170), (3, 172, 279)] [10, 11] [(4, 3, 4)]) σ0 y0 → zr 0 9 y1 → zpc (k12 y0 y1) (fun r => (zQ [] [(3, 69, 88), (3, 98, 170), (3, 172, 279)] [10, 11] [(4, 3, 4)]) σ0 (r))) {σ : zSt} {x1 : Int32} (h : (zQ [] [(3, 69, 88), (3, 98, 170), (3, 172, 279)] [10, 11] [(4, 3, 4)]) σ0 σ) (qx1 : zr 0 9 x1) : zpc (fX12_waves_12_body k12 σ x1) (fun r => (zQ [] [(3, 69, 88), (3, 98, 170), (3, 172, 279)] [10, 11] [(4, 3, 4)]) σ0 (r)) := by
  unfold fX12_waves_12_body
  exact zpc_if (fun g3 => zpc_ck (zpc_bv (fun v12 _ => zpc_if (fun _ => fW_fX12_waves_75 h (zr_c (x := 164) (lo := 164) (hi := 164) (by decide))) (fun _ => fW_fX12_waves_75 h (zr_c (x := 164) (lo := 164) (hi := 164) (by decide)))))) (fun g3 => fW_fX12_waves_20 hk12 _ _ _ _ h (zr_nge (k := 9) (m := 8) qx1 rfl g3 (by decide)) (zr_w (zr_c (x := 0) (lo := 0) (hi := 0) (by decide)) (by decide)))
theorem fW_fX12_waves_12 {σ0 : zSt} : ∀ (n : Nat) (y0 : zSt) (y1 : Int32), (zQ [] [(3, 69, 88), (3, 98, 170), (3, 172, 279)] [10, 11] [(4, 3, 4)]) σ0 y0 → zr 0 9 y1 → zpc (fX12_waves_12 n y0 y1) (fun r => (zQ [] [(3, 69, 88), (3, 98, 170), (3, 172, 279)] [10, 11] [(4, 3, 4)]) σ0 (r)) := by
  intro n
  induction n with
  | zero => intro y0 y1 h q1; exact zpc_none
  | succ n ih => intro y0 y1 h q1; exact fW_fX12_waves_12_body ih h q1
theorem fW_fX12_waves {σ0 : zSt} {σ : zSt} (h : (zQ [] [(3, 69, 88), (3, 98, 170), (3, 172, 279)] [10, 11] [(4, 3, 4)]) σ0 σ) : zpc (fX12_waves σ) (fun r => (zQ [] [(3, 69, 88), (3, 98, 170), (3, 172, 279)] [10, 11] [(4, 3, 4)]) σ0 (r)) := by
  unfold fX12_waves
  exact zpc_ck (zpc_ck (zpc_bs (zQ.wl h rfl) (fun σ13 hσ13 => fW_fX12_waves_12 _ _ _ hσ13 (zr_w (zr_c (x := 0) (lo := 0) (hi := 0) (by decide)) (by decide)))))
theorem fW_fX12_mixed_151 {σ0 : zSt} {σ : zSt} {x2 : Int64} (h : (zQ [] [(3, 69, 88), (3, 98, 170), (3, 172, 279)] [10, 11] [(4, 3, 4)]) σ0 σ) : zpc (fX12_mixed_151 σ x2) (fun r => (zQ [] [(3, 69, 88), (3, 98, 170), (3, 172, 279)] [10, 11] [(4, 3, 4)]) σ0 (r)) := by
  unfold fX12_mixed_151
  exact zpc_ck (zpc_ck (zpc_ck (zpc_ck (zpc_bs (zQ.wl h rfl) (fun σ1 hσ1 => zpc_some hσ1)))))
theorem fW_fX12_mixed_76_body {σ0 : zSt} {k76 : zSt → Int64 → Int32 → Option (zSt)} (hk76 : ∀ (y0 : zSt) (y1 : Int64) (y2 : Int32), (zQ [] [(3, 69, 88), (3, 98, 170), (3, 172, 279)] [10, 11] [(4, 3, 4)]) σ0 y0 → zr 0 3 y2 → zpc (k76 y0 y1 y2) (fun r => (zQ [] [(3, 69, 88), (3, 98, 170), (3, 172, 279)] [10, 11] [(4, 3, 4)]) σ0 (r))) {σ : zSt} {x2 : Int64} {x4 : Int32} (h : (zQ [] [(3, 69, 88), (3, 98, 170), (3, 172, 279)] [10, 11] [(4, 3, 4)]) σ0 σ) (qx4 : zr 0 3 x4) : zpc (fX12_mixed_76_body k76 σ x2 x4) (fun r => (zQ [] [(3, 69, 88), (3, 98, 170), (3, 172, 279)] [10, 11] [(4, 3, 4)]) σ0 (r)) := by
  unfold fX12_mixed_76_body
  exact zpc_if (fun g4 => zpc_ck (zpc_if (fun _ => zpc_ck (zpc_ck (zpc_ck (zpc_bs (zQ.wi h rfl) (fun σ3 hσ3 => fW_fX12_mixed_151 hσ3))))) (fun _ => zpc_ck (zpc_ck (zpc_bs (zQ.wi h rfl) (fun σ2 hσ2 => fW_fX12_mixed_151 hσ2)))))) (fun g4 => zpc_ck (zpc_bs (zQ.wr (a := 98) (b := 170) (lo := 166) (hi := 168) h (zr_add (lo := 166) (hi := 168) (zr_c (x := 166) (lo := 166) (hi := 166) (by decide)) (zr_nge (k := 3) (m := 2) qx4 rfl g4 (by decide)) (by decide)) rfl (by decide)) (fun σ4 hσ4 => zpc_bv (fun v5 ev5 => hk76 _ _ _ hσ4 (zr_w (show zr 1 3 v5 by rw [ev5]; exact (zr_add (lo := 1) (hi := 3) (zr_nge (k := 3) (m := 2) qx4 rfl g4 (by decide)) (zr_c (x := 1) (lo := 1) (hi := 1) (by decide)) (by decide))) (by decide))))))
theorem fW_fX12_mixed_76 {σ0 : zSt} : ∀ (n : Nat) (y0 : zSt) (y1 : Int64) (y2 : Int32), (zQ [] [(3, 69, 88), (3, 98, 170), (3, 172, 279)] [10, 11] [(4, 3, 4)]) σ0 y0 → zr 0 3 y2 → zpc (fX12_mixed_76 n y0 y1 y2) (fun r => (zQ [] [(3, 69, 88), (3, 98, 170), (3, 172, 279)] [10, 11] [(4, 3, 4)]) σ0 (r)) := by
  intro n
  induction n with
  | zero => intro y0 y1 y2 h q2; exact zpc_none
  | succ n ih => intro y0 y1 y2 h q2; exact fW_fX12_mixed_76_body ih h q2
theorem fW_fX12_mixed_26 {σ0 : zSt} {σ : zSt} {s0 : Int32} (h : (zQ [] [(3, 69, 88), (3, 98, 170), (3, 172, 279)] [10, 11] [(4, 3, 4)]) σ0 σ) : zpc (fX12_mixed_26 σ s0) (fun r => (zQ [] [(3, 69, 88), (3, 98, 170), (3, 172, 279)] [10, 11] [(4, 3, 4)]) σ0 (r)) := by
  unfold fX12_mixed_26
  exact zpc_ck (zpc_ck (zpc_ck (zpc_ck (zpc_ck (zpc_ck (zpc_bv (fun v6 _ => fW_fX12_mixed_76 _ _ _ _ h (zr_w (zr_c (x := 0) (lo := 0) (hi := 0) (by decide)) (by decide)))))))))
theorem fW_fX12_mixed {σ0 : zSt} {σ : zSt} (h : (zQ [] [(3, 69, 88), (3, 98, 170), (3, 172, 279)] [10, 11] [(4, 3, 4)]) σ0 σ) : zpc (fX12_mixed σ) (fun r => (zQ [] [(3, 69, 88), (3, 98, 170), (3, 172, 279)] [10, 11] [(4, 3, 4)]) σ0 (r)) := by
  unfold fX12_mixed
  exact zpc_ck (zpc_if (fun _ => zpc_ck (fW_fX12_mixed_26 h)) (fun _ => fW_fX12_mixed_26 h))
theorem fW_fX12_once_377_body {σ0 : zSt} {k377 : zSt → Int64 → Option (zSt)} (hk377 : ∀ (y0 : zSt) (y1 : Int64), (zQ [] [(3, 69, 88), (3, 98, 170), (3, 172, 279)] [10, 11] [(4, 3, 4)]) σ0 y0 → zpc (k377 y0 y1) (fun r => (zQ [] [(3, 69, 88), (3, 98, 170), (3, 172, 279)] [10, 11] [(4, 3, 4)]) σ0 (r))) {σ : zSt} {x5 : Int64} (h : (zQ [] [(3, 69, 88), (3, 98, 170), (3, 172, 279)] [10, 11] [(4, 3, 4)]) σ0 σ) : zpc (fX12_once_377_body k377 σ x5) (fun r => (zQ [] [(3, 69, 88), (3, 98, 170), (3, 172, 279)] [10, 11] [(4, 3, 4)]) σ0 (r)) := by
  unfold fX12_once_377_body
  exact zpc_ck (zpc_ck (zpc_if (fun _ => zpc_some h) (fun _ => zpc_bu (fW_fX12_mixed h) (fun σ1 hσ1 => zpc_bv (fun v2 _ => hk377 _ _ hσ1)))))
theorem fW_fX12_once_377 {σ0 : zSt} : ∀ (n : Nat) (y0 : zSt) (y1 : Int64), (zQ [] [(3, 69, 88), (3, 98, 170), (3, 172, 279)] [10, 11] [(4, 3, 4)]) σ0 y0 → zpc (fX12_once_377 n y0 y1) (fun r => (zQ [] [(3, 69, 88), (3, 98, 170), (3, 172, 279)] [10, 11] [(4, 3, 4)]) σ0 (r)) := by
  intro n
  induction n with
  | zero => intro y0 y1 h; exact zpc_none
  | succ n ih => intro y0 y1 h; exact fW_fX12_once_377_body ih h
theorem fW_fX12_once_341_body {σ0 : zSt} {k341 : zSt → Int64 → Int64 → Option (zSt)} (hk341 : ∀ (y0 : zSt) (y1 : Int64) (y2 : Int64), (zQ [] [(3, 69, 88), (3, 98, 170), (3, 172, 279)] [10, 11] [(4, 3, 4)]) σ0 y0 → zpc (k341 y0 y1 y2) (fun r => (zQ [] [(3, 69, 88), (3, 98, 170), (3, 172, 279)] [10, 11] [(4, 3, 4)]) σ0 (r))) {σ : zSt} {x3 : Int64} {x5 : Int64} (h : (zQ [] [(3, 69, 88), (3, 98, 170), (3, 172, 279)] [10, 11] [(4, 3, 4)]) σ0 σ) : zpc (fX12_once_341_body k341 σ x3 x5) (fun r => (zQ [] [(3, 69, 88), (3, 98, 170), (3, 172, 279)] [10, 11] [(4, 3, 4)]) σ0 (r)) := by
  unfold fX12_once_341_body
  exact zpc_ck (zpc_ck (zpc_if (fun _ => zpc_ck (zpc_bv (fun v3 _ => fW_fX12_once_377 _ _ _ h))) (fun _ => zpc_bu (fW_fX12_waves h) (fun σ4 hσ4 => zpc_bv (fun v5 _ => hk341 _ _ _ hσ4)))))
theorem fW_fX12_once_341 {σ0 : zSt} : ∀ (n : Nat) (y0 : zSt) (y1 : Int64) (y2 : Int64), (zQ [] [(3, 69, 88), (3, 98, 170), (3, 172, 279)] [10, 11] [(4, 3, 4)]) σ0 y0 → zpc (fX12_once_341 n y0 y1 y2) (fun r => (zQ [] [(3, 69, 88), (3, 98, 170), (3, 172, 279)] [10, 11] [(4, 3, 4)]) σ0 (r)) := by
  intro n
  induction n with
  | zero => intro y0 y1 y2 h; exact zpc_none
  | succ n ih => intro y0 y1 y2 h; exact fW_fX12_once_341_body ih h
theorem fW_fX12_once_305_body {σ0 : zSt} {k305 : zSt → Int64 → Int64 → Option (zSt)} (hk305 : ∀ (y0 : zSt) (y1 : Int64) (y2 : Int64), (zQ [] [(3, 69, 88), (3, 98, 170), (3, 172, 279)] [10, 11] [(4, 3, 4)]) σ0 y0 → zpc (k305 y0 y1 y2) (fun r => (zQ [] [(3, 69, 88), (3, 98, 170), (3, 172, 279)] [10, 11] [(4, 3, 4)]) σ0 (r))) {σ : zSt} {x3 : Int64} {x5 : Int64} (h : (zQ [] [(3, 69, 88), (3, 98, 170), (3, 172, 279)] [10, 11] [(4, 3, 4)]) σ0 σ) : zpc (fX12_once_305_body k305 σ x3 x5) (fun r => (zQ [] [(3, 69, 88), (3, 98, 170), (3, 172, 279)] [10, 11] [(4, 3, 4)]) σ0 (r)) := by
  unfold fX12_once_305_body
  exact zpc_ck (zpc_ck (zpc_if (fun _ => zpc_ck (zpc_bv (fun v6 _ => fW_fX12_once_341 _ _ _ _ h))) (fun _ => zpc_bu (fW_fX12_sample h) (fun σ7 hσ7 => zpc_bv (fun v8 _ => hk305 _ _ _ hσ7)))))
theorem fW_fX12_once_305 {σ0 : zSt} : ∀ (n : Nat) (y0 : zSt) (y1 : Int64) (y2 : Int64), (zQ [] [(3, 69, 88), (3, 98, 170), (3, 172, 279)] [10, 11] [(4, 3, 4)]) σ0 y0 → zpc (fX12_once_305 n y0 y1 y2) (fun r => (zQ [] [(3, 69, 88), (3, 98, 170), (3, 172, 279)] [10, 11] [(4, 3, 4)]) σ0 (r)) := by
  intro n
  induction n with
  | zero => intro y0 y1 y2 h; exact zpc_none
  | succ n ih => intro y0 y1 y2 h; exact fW_fX12_once_305_body ih h
theorem fW_fX12_once_298 {σ0 : zSt} {σ : zSt} {x3 : Int64} (h : (zQ [] [(3, 69, 88), (3, 98, 170), (3, 172, 279)] [10, 11] [(4, 3, 4)]) σ0 σ) : zpc (fX12_once_298 σ x3) (fun r => (zQ [] [(3, 69, 88), (3, 98, 170), (3, 172, 279)] [10, 11] [(4, 3, 4)]) σ0 (r)) := by
  unfold fX12_once_298
  exact zpc_ck (zpc_bv (fun v9 _ => fW_fX12_once_305 _ _ _ _ h))
