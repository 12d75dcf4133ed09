section ZJN0
theorem fq_fX7_moveTone_57 {σ0 : zSt} {σ : zSt} {x1 : Int32} {x2 : Int32} (h : (zQ [5, 11, 12] [(30, 3, 8), (30, 14, 16), (32, 65, 67), (32, 128, 271)] [5, 46, 48] [(38, 3, 6)]) σ0 σ) (qx1 : zr 0 2 x1) : zpc (fX7_moveTone_57 σ x1 x2) (fun r => (zQ [5, 11, 12] [(30, 3, 8), (30, 14, 16), (32, 65, 67), (32, 128, 271)] [5, 46, 48] [(38, 3, 6)]) σ0 (r)) := by
  unfold fX7_moveTone_57
  exact zpc_ck (zpc_bs (zQ.wr (a := 3) (b := 8) (lo := 3) (hi := 5) h (zr_add (lo := 3) (hi := 5) (zr_c (x := 3) (lo := 3) (hi := 3) (by decide)) qx1 (by decide)) rfl (by decide)) (fun σ1 hσ1 => zpc_some hσ1))
theorem fq_fX7_moveTone_56 {σ0 : zSt} {σ : zSt} {x1 : Int32} {x2 : Int32} {s0 : Int32} {s1 : Int32} (h : (zQ [5, 11, 12] [(30, 3, 8), (30, 14, 16), (32, 65, 67), (32, 128, 271)] [5, 46, 48] [(38, 3, 6)]) σ0 σ) (qx1 : zr 0 2 x1) (qs1 : zr 6 8 s1) : zpc (fX7_moveTone_56 σ x1 x2 s0 s1) (fun r => (zQ [5, 11, 12] [(30, 3, 8), (30, 14, 16), (32, 65, 67), (32, 128, 271)] [5, 46, 48] [(38, 3, 6)]) σ0 (r)) := by
  unfold fX7_moveTone_56
  exact zpc_ck (zpc_bs (zQ.wr (a := 3) (b := 8) (lo := 6) (hi := 8) h qs1 rfl (by decide)) (fun σ2 hσ2 => fq_fX7_moveTone_57 hσ2 qx1))
theorem fq_fX7_moveTone {σ0 : zSt} {σ : zSt} {x1 : Int32} (h : (zQ [5, 11, 12] [(30, 3, 8), (30, 14, 16), (32, 65, 67), (32, 128, 271)] [5, 46, 48] [(38, 3, 6)]) σ0 σ) (qx1 : zr 0 2 x1) : zpc (fX7_moveTone σ x1) (fun r => (zQ [5, 11, 12] [(30, 3, 8), (30, 14, 16), (32, 65, 67), (32, 128, 271)] [5, 46, 48] [(38, 3, 6)]) σ0 (r)) := by
  unfold fX7_moveTone
  exact zpc_ck (zpc_bv (fun v3 _ => zpc_if (fun _ => zpc_ck (zpc_bv (fun v4 _ => zpc_if (fun _ => zpc_ck (fq_fX7_moveTone_56 h qx1 (zr_add (lo := 6) (hi := 8) (zr_c (x := 6) (lo := 6) (hi := 6) (by decide)) qx1 (by decide)))) (fun _ => fq_fX7_moveTone_56 h qx1 (zr_add (lo := 6) (hi := 8) (zr_c (x := 6) (lo := 6) (hi := 6) (by decide)) qx1 (by decide)))))) (fun _ => fq_fX7_moveTone_57 h qx1)))
theorem fq_fX7_moveNoise_136 {σ0 : zSt} {σ : zSt} (h : (zQ [5, 11, 12] [(30, 3, 8), (30, 14, 16), (32, 65, 67), (32, 128, 271)] [5, 46, 48] [(38, 3, 6)]) σ0 σ) : zpc (fX7_moveNoise_136 σ) (fun r => (zQ [5, 11, 12] [(30, 3, 8), (30, 14, 16), (32, 65, 67), (32, 128, 271)] [5, 46, 48] [(38, 3, 6)]) σ0 (r)) := by
  unfold fX7_moveNoise_136
  exact zpc_some h
theorem fq_fX7_moveNoise_120 {σ0 : zSt} {σ : zSt} {x2 : Int32} {s0 : Int32} (h : (zQ [5, 11, 12] [(30, 3, 8), (30, 14, 16), (32, 65, 67), (32, 128, 271)] [5, 46, 48] [(38, 3, 6)]) σ0 σ) : zpc (fX7_moveNoise_120 σ x2 s0) (fun r => (zQ [5, 11, 12] [(30, 3, 8), (30, 14, 16), (32, 65, 67), (32, 128, 271)] [5, 46, 48] [(38, 3, 6)]) σ0 (r)) := by
  unfold fX7_moveNoise_120
  exact zpc_ck (zpc_bs (zQ.wi h rfl) (fun σ1 hσ1 => fq_fX7_moveNoise_136 hσ1))
theorem fq_fX7_moveNoise_65 {σ0 : zSt} {σ : zSt} {s0 : Int32} {s1 : Int32} (h : (zQ [5, 11, 12] [(30, 3, 8), (30, 14, 16), (32, 65, 67), (32, 128, 271)] [5, 46, 48] [(38, 3, 6)]) σ0 σ) (qs1 : zr 14 14 s1) : zpc (fX7_moveNoise_65 σ s0 s1) (fun r => (zQ [5, 11, 12] [(30, 3, 8), (30, 14, 16), (32, 65, 67), (32, 128, 271)] [5, 46, 48] [(38, 3, 6)]) σ0 (r)) := by
  unfold fX7_moveNoise_65
  exact zpc_ck (zpc_bs (zQ.wr (a := 14) (b := 16) (lo := 14) (hi := 14) h qs1 rfl (by decide)) (fun σ2 hσ2 => zpc_ck (zpc_ck (zpc_bs (zQ.wi hσ2 rfl) (fun σ3 hσ3 => zpc_ck (zpc_if (fun _ => zpc_ck (zpc_bv (fun v4 _ => zpc_ck (zpc_if (fun _ => fq_fX7_moveNoise_120 hσ3) (fun _ => fq_fX7_moveNoise_120 hσ3))))) (fun _ => fq_fX7_moveNoise_136 hσ3)))))))
theorem fq_fX7_moveNoise {σ0 : zSt} {σ : zSt} (h : (zQ [5, 11, 12] [(30, 3, 8), (30, 14, 16), (32, 65, 67), (32, 128, 271)] [5, 46, 48] [(38, 3, 6)]) σ0 σ) : zpc (fX7_moveNoise σ) (fun r => (zQ [5, 11, 12] [(30, 3, 8), (30, 14, 16), (32, 65, 67), (32, 128, 271)] [5, 46, 48] [(38, 3, 6)]) σ0 (r)) := by
  unfold fX7_moveNoise
  exact zpc_ck (zpc_ck (zpc_bs (zQ.wi h rfl) (fun σ5 hσ5 => zpc_ck (zpc_if (fun _ => zpc_ck (zpc_bv (fun v6 _ => zpc_if (fun _ => zpc_ck (fq_fX7_moveNoise_65 hσ5 (zr_c (x := 14) (lo := 14) (hi := 14) (by decide)))) (fun _ => fq_fX7_moveNoise_65 hσ5 (zr_c (x := 14) (lo := 14) (hi := 14) (by decide)))))) (fun _ => zpc_some hσ5)))))
theorem fq_fX7_nextSample_87 {σ0 : zSt} {k28 : zSt → Int32 → Int32 → Int32 → Option (zSt × Int32)} (hk28 : ∀ (y0 : zSt) (y1 : Int32) (y2 : Int32) (y3 : Int32), (zQ [5, 11, 12] [(30, 3, 8), (30, 14, 16), (32, 65, 67), (32, 128, 271)] [5, 46, 48] [(38, 3, 6)]) σ0 y0 → zpc (k28 y0 y1 y2 y3) (fun r => (zQ [5, 11, 12] [(30, 3, 8), (30, 14, 16), (32, 65, 67), (32, 128, 271)] [5, 46, 48] [(38, 3, 6)]) σ0 (r.1))) {σ : zSt} {x1 : Int32} {x2 : Int32} {x3 : Int32} {s0 : Int32} (h : (zQ [5, 11, 12] [(30, 3, 8), (30, 14, 16), (32, 65, 67), (32, 128, 271)] [5, 46, 48] [(38, 3, 6)]) σ0 σ) : zpc (fX7_nextSample_87 k28 σ x1 x2 x3 s0) (fun r => (zQ [5, 11, 12] [(30, 3, 8), (30, 14, 16), (32, 65, 67), (32, 128, 271)] [5, 46, 48] [(38, 3, 6)]) σ0 (r.1)) := by
  unfold fX7_nextSample_87
  exact zpc_ck (zpc_bv (fun v1 _ => zpc_ck (zpc_bv (fun v2 _ => zpc_bv (fun v3 _ => hk28 _ _ _ _ h)))))
theorem fq_fX7_nextSample_59 {σ0 : zSt} {k28 : zSt → Int32 → Int32 → Int32 → Option (zSt × Int32)} (hk28 : ∀ (y0 : zSt) (y1 : Int32) (y2 : Int32) (y3 : Int32), (zQ [5, 11, 12] [(30, 3, 8), (30, 14, 16), (32, 65, 67), (32, 128, 271)] [5, 46, 48] [(38, 3, 6)]) σ0 y0 → zpc (k28 y0 y1 y2 y3) (fun r => (zQ [5, 11, 12] [(30, 3, 8), (30, 14, 16), (32, 65, 67), (32, 128, 271)] [5, 46, 48] [(38, 3, 6)]) σ0 (r.1))) {σ : zSt} {x1 : Int32} {x2 : Int32} {x3 : Int32} {s0 : Int32} (h : (zQ [5, 11, 12] [(30, 3, 8), (30, 14, 16), (32, 65, 67), (32, 128, 271)] [5, 46, 48] [(38, 3, 6)]) σ0 σ) : zpc (fX7_nextSample_59 k28 σ x1 x2 x3 s0) (fun r => (zQ [5, 11, 12] [(30, 3, 8), (30, 14, 16), (32, 65, 67), (32, 128, 271)] [5, 46, 48] [(38, 3, 6)]) σ0 (r.1)) := by
  unfold fX7_nextSample_59
  exact zpc_if (fun _ => zpc_ck (zpc_ck (fq_fX7_nextSample_87 hk28 h))) (fun _ => fq_fX7_nextSample_87 hk28 h)
theorem fq_fX7_nextSample_28_body {σ0 : zSt} {k28 : zSt → Int32 → Int32 → Int32 → Option (zSt × Int32)} (hk28 : ∀ (y0 : zSt) (y1 : Int32) (y2 : Int32) (y3 : Int32), (zQ [5, 11, 12] [(30, 3, 8), (30, 14, 16), (32, 65, 67), (32, 128, 271)] [5, 46, 48] [(38, 3, 6)]) σ0 y0 → zpc (k28 y0 y1 y2 y3) (fun r => (zQ [5, 11, 12] [(30, 3, 8), (30, 14, 16), (32, 65, 67), (32, 128, 271)] [5, 46, 48] [(38, 3, 6)]) σ0 (r.1))) {σ : zSt} {x1 : Int32} {x2 : Int32} {x3 : Int32} (h : (zQ [5, 11, 12] [(30, 3, 8), (30, 14, 16), (32, 65, 67), (32, 128, 271)] [5, 46, 48] [(38, 3, 6)]) σ0 σ) : zpc (fX7_nextSample_28_body k28 σ x1 x2 x3) (fun r => (zQ [5, 11, 12] [(30, 3, 8), (30, 14, 16), (32, 65, 67), (32, 128, 271)] [5, 46, 48] [(38, 3, 6)]) σ0 (r.1)) := by
  unfold fX7_nextSample_28_body
  exact zpc_if (fun _ => zpc_some h) (fun _ => zpc_if (fun _ => zpc_ck (fq_fX7_nextSample_59 hk28 h)) (fun _ => zpc_ck (fq_fX7_nextSample_59 hk28 h)))
theorem fq_fX7_nextSample_28 {σ0 : zSt} : ∀ (n : Nat) (y0 : zSt) (y1 : Int32) (y2 : Int32) (y3 : Int32), (zQ [5, 11, 12] [(30, 3, 8), (30, 14, 16), (32, 65, 67), (32, 128, 271)] [5, 46, 48] [(38, 3, 6)]) σ0 y0 → zpc (fX7_nextSample_28 n y0 y1 y2 y3) (fun r => (zQ [5, 11, 12] [(30, 3, 8), (30, 14, 16), (32, 65, 67), (32, 128, 271)] [5, 46, 48] [(38, 3, 6)]) σ0 (r.1)) := by
  intro n
  induction n with
  | zero => intro y0 y1 y2 y3 h; exact zpc_none
  | succ n ih => intro y0 y1 y2 y3 h; exact fq_fX7_nextSample_28_body ih h
theorem fq_fX7_nextSample_2_body {σ0 : zSt} {k2 : zSt → Int32 → Option (zSt × Int32)} (hk2 : ∀ (y0 : zSt) (y1 : Int32), (zQ [5, 11, 12] [(30, 3, 8), (30, 14, 16), (32, 65, 67), (32, 128, 271)] [5, 46, 48] [(38, 3, 6)]) σ0 y0 → zr 0 3 y1 → zpc (k2 y0 y1) (fun r => (zQ [5, 11, 12] [(30, 3, 8), (30, 14, 16), (32, 65, 67), (32, 128, 271)] [5, 46, 48] [(38, 3, 6)]) σ0 (r.1))) {σ : zSt} {x1 : Int32} (h : (zQ [5, 11, 12] [(30, 3, 8), (30, 14, 16), (32, 65, 67), (32, 128, 271)] [5, 46, 48] [(38, 3, 6)]) σ0 σ) (qx1 : zr 0 3 x1) : zpc (fX7_nextSample_2_body k2 σ x1) (fun r => (zQ [5, 11, 12] [(30, 3, 8), (30, 14, 16), (32, 65, 67), (32, 128, 271)] [5, 46, 48] [(38, 3, 6)]) σ0 (r.1)) := by
  unfold fX7_nextSample_2_body
  exact zpc_if (fun g1 => zpc_bu (fq_fX7_moveNoise h) (fun σ4 hσ4 => fq_fX7_nextSample_28 _ _ _ _ _ hσ4)) (fun g1 => zpc_bu (fq_fX7_moveTone h (zr_nge (k := 3) (m := 2) qx1 rfl g1 (by decide))) (fun σ5 hσ5 => zpc_bv (fun v6 ev6 => hk2 _ _ hσ5 (zr_w (show zr 1 3 v6 by rw [ev6]; exact (zr_add (lo := 1) (hi := 3) (zr_nge (k := 3) (m := 2) qx1 rfl g1 (by decide)) (zr_c (x := 1) (lo := 1) (hi := 1) (by decide)) (by decide))) (by decide)))))
theorem fq_fX7_nextSample_2 {σ0 : zSt} : ∀ (n : Nat) (y0 : zSt) (y1 : Int32), (zQ [5, 11, 12] [(30, 3, 8), (30, 14, 16), (32, 65, 67), (32, 128, 271)] [5, 46, 48] [(38, 3, 6)]) σ0 y0 → zr 0 3 y1 → zpc (fX7_nextSample_2 n y0 y1) (fun r => (zQ [5, 11, 12] [(30, 3, 8), (30, 14, 16), (32, 65, 67), (32, 128, 271)] [5, 46, 48] [(38, 3, 6)]) σ0 (r.1)) := by
  intro n
  induction n with
  | zero => intro y0 y1 h q1; exact zpc_none
  | succ n ih => intro y0 y1 h q1; exact fq_fX7_nextSample_2_body ih h q1
theorem fq_fX7_nextSample {σ0 : zSt} {σ : zSt} (h : (zQ [5, 11, 12] [(30, 3, 8), (30, 14, 16), (32, 65, 67), (32, 128, 271)] [5, 46, 48] [(38, 3, 6)]) σ0 σ) : zpc (fX7_nextSample σ) (fun r => (zQ [5, 11, 12] [(30, 3, 8), (30, 14, 16), (32, 65, 67), (32, 128, 271)] [5, 46, 48] [(38, 3, 6)]) σ0 (r.1)) := by
  unfold fX7_nextSample
  exact fq_fX7_nextSample_2 _ _ _ h (zr_w (zr_c (x := 0) (lo := 0) (hi := 0) (by decide)) (by decide))
theorem fq_fX6_add_k11_56 {σ0 : zSt} {σ : zSt} (h : (zQ [5, 11, 12] [(30, 3, 8), (30, 14, 16), (32, 65, 67), (32, 128, 271)] [5, 46, 48] [(38, 3, 6)]) σ0 σ) : zpc (fX6_add_k11_56 σ) (fun r => (zQ [5, 11, 12] [(30, 3, 8), (30, 14, 16), (32, 65, 67), (32, 128, 271)] [5, 46, 48] [(38, 3, 6)]) σ0 (r)) := by
  unfold fX6_add_k11_56
  exact zpc_some h
theorem fq_fX6_add_k11 {σ0 : zSt} {σ : zSt} {x1 : Int64} (h : (zQ [5, 11, 12] [(30, 3, 8), (30, 14, 16), (32, 65, 67), (32, 128, 271)] [5, 46, 48] [(38, 3, 6)]) σ0 σ) : zpc (fX6_add_k11 σ x1) (fun r => (zQ [5, 11, 12] [(30, 3, 8), (30, 14, 16), (32, 65, 67), (32, 128, 271)] [5, 46, 48] [(38, 3, 6)]) σ0 (r)) := by
  unfold fX6_add_k11
  exact zpc_ck (zpc_bs (zQ.wl h rfl) (fun σ1 hσ1 => zpc_if (fun _ => zpc_bs (zQ.wi hσ1 rfl) (fun σ2 hσ2 => fq_fX6_add_k11_56 hσ2)) (fun _ => zpc_bs (zQ.wi hσ1 rfl) (fun σ3 hσ3 => fq_fX6_add_k11_56 hσ3))))
theorem fq_fX0_addSample {σ0 : zSt} {σ : zSt} (h : (zQ [5, 11, 12] [(30, 3, 8), (30, 14, 16), (32, 65, 67), (32, 128, 271)] [5, 46, 48] [(38, 3, 6)]) σ0 σ) : zpc (fX0_addSample σ) (fun r => (zQ [5, 11, 12] [(30, 3, 8), (30, 14, 16), (32, 65, 67), (32, 128, 271)] [5, 46, 48] [(38, 3, 6)]) σ0 (r)) := by
  unfold fX0_addSample
  exact zpc_bi (fq_fX7_nextSample h) (fun σ1 v2 hσ1 => zpc_bu (fq_fX6_add_k11 hσ1) (fun σ3 hσ3 => zpc_ck (zpc_ck (zpc_bs (zQ.wl hσ3 rfl) (fun σ4 hσ4 => zpc_ck (zpc_ck (zpc_bs (zQ.wl hσ4 rfl) (fun σ5 hσ5 => zpc_ck (zpc_ck (zpc_bs (zQ.wl hσ5 rfl) (fun σ6 hσ6 => zpc_ck (zpc_ck (zpc_bs (zQ.wl hσ6 rfl) (fun σ7 hσ7 => zpc_some hσ7))))))))))))))
theorem fq_fX10_takeOwnPatch_7_body {σ0 : zSt} {k7 : zSt → Int32 → Option (zSt)} (hk7 : ∀ (y0 : zSt) (y1 : Int32), (zQ [5, 11, 12] [(30, 3, 8), (30, 14, 16), (32, 65, 67), (32, 128, 271)] [5, 46, 48] [(38, 3, 6)]) σ0 y0 → zpc (k7 y0 y1) (fun r => (zQ [5, 11, 12] [(30, 3, 8), (30, 14, 16), (32, 65, 67), (32, 128, 271)] [5, 46, 48] [(38, 3, 6)]) σ0 (r))) {σ : zSt} {x1 : Int32} (h : (zQ [5, 11, 12] [(30, 3, 8), (30, 14, 16), (32, 65, 67), (32, 128, 271)] [5, 46, 48] [(38, 3, 6)]) σ0 σ) : zpc (fX10_takeOwnPatch_7_body k7 σ x1) (fun r => (zQ [5, 11, 12] [(30, 3, 8), (30, 14, 16), (32, 65, 67), (32, 128, 271)] [5, 46, 48] [(38, 3, 6)]) σ0 (r)) := by
  unfold fX10_takeOwnPatch_7_body
  exact zpc_if (fun _ => zpc_some h) (fun _ => zpc_ck (zpc_bs (zQ.wl h rfl) (fun σ1 hσ1 => zpc_bv (fun v2 _ => hk7 _ _ hσ1))))
theorem fq_fX10_takeOwnPatch_7 {σ0 : zSt} : ∀ (n : Nat) (y0 : zSt) (y1 : Int32), (zQ [5, 11, 12] [(30, 3, 8), (30, 14, 16), (32, 65, 67), (32, 128, 271)] [5, 46, 48] [(38, 3, 6)]) σ0 y0 → zpc (fX10_takeOwnPatch_7 n y0 y1) (fun r => (zQ [5, 11, 12] [(30, 3, 8), (30, 14, 16), (32, 65, 67), (32, 128, 271)] [5, 46, 48] [(38, 3, 6)]) σ0 (r)) := by
  intro n
  induction n with
  | zero => intro y0 y1 h; exact zpc_none
  | succ n ih => intro y0 y1 h; exact fq_fX10_takeOwnPatch_7_body ih h
theorem fq_fX10_takeOwnPatch {σ0 : zSt} {σ : zSt} (h : (zQ [5, 11, 12] [(30, 3, 8), (30, 14, 16), (32, 65, 67), (32, 128, 271)] [5, 46, 48] [(38, 3, 6)]) σ0 σ) : zpc (fX10_takeOwnPatch σ) (fun r => (zQ [5, 11, 12] [(30, 3, 8), (30, 14, 16), (32, 65, 67), (32, 128, 271)] [5, 46, 48] [(38, 3, 6)]) σ0 (r)) := by
  unfold fX10_takeOwnPatch
  exact zpc_bs (zQ.wl h rfl) (fun σ3 hσ3 => fq_fX10_takeOwnPatch_7 _ _ _ hσ3)
theorem fq_fX10_takeChannel_110 {σ0 : zSt} {σ : zSt} {s0 : Int64} (h : (zQ [5, 11, 12] [(30, 3, 8), (30, 14, 16), (32, 65, 67), (32, 128, 271)] [5, 46, 48] [(38, 3, 6)]) σ0 σ) : zpc (fX10_takeChannel_110 σ s0) (fun r => (zQ [5, 11, 12] [(30, 3, 8), (30, 14, 16), (32, 65, 67), (32, 128, 271)] [5, 46, 48] [(38, 3, 6)]) σ0 (r)) := by
  unfold fX10_takeChannel_110
  exact zpc_bs (zQ.wl h rfl) (fun σ1 hσ1 => zpc_some hσ1)
theorem fq_fX10_takeChannel_106 {σ0 : zSt} {σ : zSt} (h : (zQ [5, 11, 12] [(30, 3, 8), (30, 14, 16), (32, 65, 67), (32, 128, 271)] [5, 46, 48] [(38, 3, 6)]) σ0 σ) : zpc (fX10_takeChannel_106 σ) (fun r => (zQ [5, 11, 12] [(30, 3, 8), (30, 14, 16), (32, 65, 67), (32, 128, 271)] [5, 46, 48] [(38, 3, 6)]) σ0 (r)) := by
  unfold fX10_takeChannel_106
  exact fq_fX10_takeChannel_110 h
theorem fq_fX10_takeChannel_82 {σ0 : zSt} {σ : zSt} {s0 : Int32} (h : (zQ [5, 11, 12] [(30, 3, 8), (30, 14, 16), (32, 65, 67), (32, 128, 271)] [5, 46, 48] [(38, 3, 6)]) σ0 σ) : zpc (fX10_takeChannel_82 σ s0) (fun r => (zQ [5, 11, 12] [(30, 3, 8), (30, 14, 16), (32, 65, 67), (32, 128, 271)] [5, 46, 48] [(38, 3, 6)]) σ0 (r)) := by
  unfold fX10_takeChannel_82
  exact zpc_if (fun _ => fq_fX10_takeChannel_106 h) (fun _ => zpc_if (fun _ => fq_fX10_takeChannel_106 h) (fun _ => zpc_ck (fq_fX10_takeChannel_110 h)))
theorem fq_fX10_takeChannel_71 {σ0 : zSt} {σ : zSt} {x1 : Int32} (h : (zQ [5, 11, 12] [(30, 3, 8), (30, 14, 16), (32, 65, 67), (32, 128, 271)] [5, 46, 48] [(38, 3, 6)]) σ0 σ) : zpc (fX10_takeChannel_71 σ x1) (fun r => (zQ [5, 11, 12] [(30, 3, 8), (30, 14, 16), (32, 65, 67), (32, 128, 271)] [5, 46, 48] [(38, 3, 6)]) σ0 (r)) := by
  unfold fX10_takeChannel_71
  exact zpc_ck (fq_fX10_takeChannel_82 h)
theorem fq_fX10_takeChannel {σ0 : zSt} {σ : zSt} {x1 : Int32} (h : (zQ [5, 11, 12] [(30, 3, 8), (30, 14, 16), (32, 65, 67), (32, 128, 271)] [5, 46, 48] [(38, 3, 6)]) σ0 σ) : zpc (fX10_takeChannel σ x1) (fun r => (zQ [5, 11, 12] [(30, 3, 8), (30, 14, 16), (32, 65, 67), (32, 128, 271)] [5, 46, 48] [(38, 3, 6)]) σ0 (r)) := by
  unfold fX10_takeChannel
  exact zpc_bs (zQ.wi h rfl) (fun σ2 hσ2 => zpc_ck (zpc_ck (zpc_bs (zQ.wi hσ2 rfl) (fun σ3 hσ3 => zpc_ck (zpc_bs (zQ.wi hσ3 rfl) (fun σ4 hσ4 => zpc_if (fun _ => fq_fX10_takeChannel_71 hσ4) (fun _ => zpc_if (fun _ => fq_fX10_takeChannel_71 hσ4) (fun _ => fq_fX10_takeChannel_82 hσ4))))))))
theorem fq_fX10_isOn_131 {σ0 : zSt} {σ : zSt} {s0 : Int32} (h : (zQ [5, 11, 12] [(30, 3, 8), (30, 14, 16), (32, 65, 67), (32, 128, 271)] [5, 46, 48] [(38, 3, 6)]) σ0 σ) : zpc (fX10_isOn_131 σ s0) (fun r => (zQ [5, 11, 12] [(30, 3, 8), (30, 14, 16), (32, 65, 67), (32, 128, 271)] [5, 46, 48] [(38, 3, 6)]) σ0 (r.1)) := by
  unfold fX10_isOn_131
  exact zpc_ck (zpc_some h)
theorem fq_fX10_isOn_122 {σ0 : zSt} {σ : zSt} {s0 : Int32} {s1 : Int32} (h : (zQ [5, 11, 12] [(30, 3, 8), (30, 14, 16), (32, 65, 67), (32, 128, 271)] [5, 46, 48] [(38, 3, 6)]) σ0 σ) : zpc (fX10_isOn_122 σ s0 s1) (fun r => (zQ [5, 11, 12] [(30, 3, 8), (30, 14, 16), (32, 65, 67), (32, 128, 271)] [5, 46, 48] [(38, 3, 6)]) σ0 (r.1)) := by
  unfold fX10_isOn_122
  exact zpc_if (fun _ => fq_fX10_isOn_131 h) (fun _ => fq_fX10_isOn_131 h)
theorem fq_fX10_isOn_105 {σ0 : zSt} {σ : zSt} {s0 : Int32} (h : (zQ [5, 11, 12] [(30, 3, 8), (30, 14, 16), (32, 65, 67), (32, 128, 271)] [5, 46, 48] [(38, 3, 6)]) σ0 σ) : zpc (fX10_isOn_105 σ s0) (fun r => (zQ [5, 11, 12] [(30, 3, 8), (30, 14, 16), (32, 65, 67), (32, 128, 271)] [5, 46, 48] [(38, 3, 6)]) σ0 (r.1)) := by
  unfold fX10_isOn_105
  exact zpc_ck (zpc_some h)
theorem fq_fX10_isOn_96 {σ0 : zSt} {σ : zSt} {s0 : Int32} {s1 : Int32} (h : (zQ [5, 11, 12] [(30, 3, 8), (30, 14, 16), (32, 65, 67), (32, 128, 271)] [5, 46, 48] [(38, 3, 6)]) σ0 σ) : zpc (fX10_isOn_96 σ s0 s1) (fun r => (zQ [5, 11, 12] [(30, 3, 8), (30, 14, 16), (32, 65, 67), (32, 128, 271)] [5, 46, 48] [(38, 3, 6)]) σ0 (r.1)) := by
  unfold fX10_isOn_96
  exact zpc_if (fun _ => fq_fX10_isOn_105 h) (fun _ => fq_fX10_isOn_105 h)
theorem fq_fX10_isOn_78 {σ0 : zSt} {σ : zSt} {s0 : Int32} (h : (zQ [5, 11, 12] [(30, 3, 8), (30, 14, 16), (32, 65, 67), (32, 128, 271)] [5, 46, 48] [(38, 3, 6)]) σ0 σ) : zpc (fX10_isOn_78 σ s0) (fun r => (zQ [5, 11, 12] [(30, 3, 8), (30, 14, 16), (32, 65, 67), (32, 128, 271)] [5, 46, 48] [(38, 3, 6)]) σ0 (r.1)) := by
  unfold fX10_isOn_78
  exact zpc_ck (zpc_some h)
theorem fq_fX10_isOn {σ0 : zSt} {σ : zSt} {x1 : Int32} (h : (zQ [5, 11, 12] [(30, 3, 8), (30, 14, 16), (32, 65, 67), (32, 128, 271)] [5, 46, 48] [(38, 3, 6)]) σ0 σ) : zpc (fX10_isOn σ x1) (fun r => (zQ [5, 11, 12] [(30, 3, 8), (30, 14, 16), (32, 65, 67), (32, 128, 271)] [5, 46, 48] [(38, 3, 6)]) σ0 (r.1)) := by
  unfold fX10_isOn
  exact zpc_ck (zpc_if (fun _ => zpc_if (fun _ => zpc_ck (zpc_some h)) (fun _ => zpc_if (fun _ => zpc_ck (zpc_if (fun _ => fq_fX10_isOn_78 h) (fun _ => fq_fX10_isOn_78 h))) (fun _ => zpc_if (fun _ => zpc_ck (zpc_if (fun _ => fq_fX10_isOn_96 h) (fun _ => fq_fX10_isOn_96 h))) (fun _ => zpc_if (fun _ => zpc_ck (zpc_if (fun _ => fq_fX10_isOn_122 h) (fun _ => fq_fX10_isOn_122 h))) (fun _ => zpc_ck (zpc_some h)))))) (fun _ => zpc_ck (zpc_some h)))
theorem fq_fX10_part {σ0 : zSt} {σ : zSt} {x1 : Int32} (h : (zQ [5, 11, 12] [(30, 3, 8), (30, 14, 16), (32, 65, 67), (32, 128, 271)] [5, 46, 48] [(38, 3, 6)]) σ0 σ) : zpc (fX10_part σ x1) (fun r => (zQ [5, 11, 12] [(30, 3, 8), (30, 14, 16), (32, 65, 67), (32, 128, 271)] [5, 46, 48] [(38, 3, 6)]) σ0 (r.1)) := by
  unfold fX10_part
  exact zpc_some h
theorem fq_fX10_rateIn_126 {σ0 : zSt} {σ : zSt} {s0 : Int32} (h : (zQ [5, 11, 12] [(30, 3, 8), (30, 14, 16), (32, 65, 67), (32, 128, 271)] [5, 46, 48] [(38, 3, 6)]) σ0 σ) : zpc (fX10_rateIn_126 σ s0) (fun r => (zQ [5, 11, 12] [(30, 3, 8), (30, 14, 16), (32, 65, 67), (32, 128, 271)] [5, 46, 48] [(38, 3, 6)]) σ0 (r.1)) := by
  unfold fX10_rateIn_126
  exact zpc_some h
theorem fq_fX10_rateIn_94 {σ0 : zSt} {σ : zSt} {s0 : Int32} (h : (zQ [5, 11, 12] [(30, 3, 8), (30, 14, 16), (32, 65, 67), (32, 128, 271)] [5, 46, 48] [(38, 3, 6)]) σ0 σ) : zpc (fX10_rateIn_94 σ s0) (fun r => (zQ [5, 11, 12] [(30, 3, 8), (30, 14, 16), (32, 65, 67), (32, 128, 271)] [5, 46, 48] [(38, 3, 6)]) σ0 (r.1)) := by
  unfold fX10_rateIn_94
  exact zpc_some h
theorem fq_fX10_rateIn_16 {σ0 : zSt} {σ : zSt} {x1 : Int32} {x2 : Int32} {s0 : Int32} (h : (zQ [5, 11, 12] [(30, 3, 8), (30, 14, 16), (32, 65, 67), (32, 128, 271)] [5, 46, 48] [(38, 3, 6)]) σ0 σ) : zpc (fX10_rateIn_16 σ x1 x2 s0) (fun r => (zQ [5, 11, 12] [(30, 3, 8), (30, 14, 16), (32, 65, 67), (32, 128, 271)] [5, 46, 48] [(38, 3, 6)]) σ0 (r.1)) := by
  unfold fX10_rateIn_16
  exact zpc_bi (fq_fX10_part h) (fun σ1 v2 hσ1 => zpc_bv (fun v3 _ => zpc_if (fun _ => zpc_some hσ1) (fun _ => zpc_if (fun _ => zpc_bi (fq_fX10_part hσ1) (fun σ4 v5 hσ4 => zpc_some hσ4)) (fun _ => zpc_if (fun _ => zpc_bi (fq_fX10_part hσ1) (fun σ6 v7 hσ6 => zpc_some hσ6)) (fun _ => zpc_if (fun _ => zpc_if (fun _ => fq_fX10_rateIn_94 hσ1) (fun _ => fq_fX10_rateIn_94 hσ1)) (fun _ => zpc_ck (zpc_if (fun _ => zpc_if (fun _ => fq_fX10_rateIn_126 hσ1) (fun _ => fq_fX10_rateIn_126 hσ1)) (fun _ => zpc_some hσ1))))))))
theorem fq_fX10_rateIn {σ0 : zSt} {σ : zSt} {x1 : Int32} {x2 : Int32} (h : (zQ [5, 11, 12] [(30, 3, 8), (30, 14, 16), (32, 65, 67), (32, 128, 271)] [5, 46, 48] [(38, 3, 6)]) σ0 σ) : zpc (fX10_rateIn σ x1 x2) (fun r => (zQ [5, 11, 12] [(30, 3, 8), (30, 14, 16), (32, 65, 67), (32, 128, 271)] [5, 46, 48] [(38, 3, 6)]) σ0 (r.1)) := by
  unfold fX10_rateIn
  exact zpc_bi (fq_fX10_part h) (fun σ8 v9 hσ8 => zpc_if (fun _ => fq_fX10_rateIn_16 hσ8) (fun _ => fq_fX10_rateIn_16 hσ8))
theorem fq_fX10_slowTick {σ0 : zSt} {σ : zSt} (h : (zQ [5, 11, 12] [(30, 3, 8), (30, 14, 16), (32, 65, 67), (32, 128, 271)] [5, 46, 48] [(38, 3, 6)]) σ0 σ) : zpc (fX10_slowTick σ) (fun r => (zQ [5, 11, 12] [(30, 3, 8), (30, 14, 16), (32, 65, 67), (32, 128, 271)] [5, 46, 48] [(38, 3, 6)]) σ0 (r.1)) := by
  unfold fX10_slowTick
  exact zpc_ck (zpc_some h)
theorem fq_fX10_tickAt_53 {σ0 : zSt} {σ : zSt} {s0 : Int32} (h : (zQ [5, 11, 12] [(30, 3, 8), (30, 14, 16), (32, 65, 67), (32, 128, 271)] [5, 46, 48] [(38, 3, 6)]) σ0 σ) : zpc (fX10_tickAt_53 σ s0) (fun r => (zQ [5, 11, 12] [(30, 3, 8), (30, 14, 16), (32, 65, 67), (32, 128, 271)] [5, 46, 48] [(38, 3, 6)]) σ0 (r.1)) := by
  unfold fX10_tickAt_53
  exact zpc_some h
theorem fq_fX10_tickAt_26 {σ0 : zSt} {σ : zSt} {x2 : Int32} {x3 : Int32} {s0 : Int32} (h : (zQ [5, 11, 12] [(30, 3, 8), (30, 14, 16), (32, 65, 67), (32, 128, 271)] [5, 46, 48] [(38, 3, 6)]) σ0 σ) : zpc (fX10_tickAt_26 σ x2 x3 s0) (fun r => (zQ [5, 11, 12] [(30, 3, 8), (30, 14, 16), (32, 65, 67), (32, 128, 271)] [5, 46, 48] [(38, 3, 6)]) σ0 (r.1)) := by
  unfold fX10_tickAt_26
  exact zpc_if (fun _ => fq_fX10_tickAt_53 h) (fun _ => zpc_ck (fq_fX10_tickAt_53 h))
theorem fq_fX10_tickAt {σ0 : zSt} {σ : zSt} {x1 : Int32} {x2 : Int32} (h : (zQ [5, 11, 12] [(30, 3, 8), (30, 14, 16), (32, 65, 67), (32, 128, 271)] [5, 46, 48] [(38, 3, 6)]) σ0 σ) : zpc (fX10_tickAt σ x1 x2) (fun r => (zQ [5, 11, 12] [(30, 3, 8), (30, 14, 16), (32, 65, 67), (32, 128, 271)] [5, 46, 48] [(38, 3, 6)]) σ0 (r.1)) := by
  unfold fX10_tickAt
  exact zpc_bv (fun v1 _ => zpc_ck (zpc_if (fun _ => fq_fX10_tickAt_26 h) (fun _ => fq_fX10_tickAt_26 h)))
theorem fq_fX10_louder_56 {σ0 : zSt} {σ : zSt} {s0 : Int32} (h : (zQ [5, 11, 12] [(30, 3, 8), (30, 14, 16), (32, 65, 67), (32, 128, 271)] [5, 46, 48] [(38, 3, 6)]) σ0 σ) : zpc (fX10_louder_56 σ s0) (fun r => (zQ [5, 11, 12] [(30, 3, 8), (30, 14, 16), (32, 65, 67), (32, 128, 271)] [5, 46, 48] [(38, 3, 6)]) σ0 (r.1)) := by
  unfold fX10_louder_56
  exact zpc_some h
theorem fq_fX10_louder {σ0 : zSt} {σ : zSt} {x1 : Int32} {x2 : Int32} {x3 : Int32} (h : (zQ [5, 11, 12] [(30, 3, 8), (30, 14, 16), (32, 65, 67), (32, 128, 271)] [5, 46, 48] [(38, 3, 6)]) σ0 σ) : zpc (fX10_louder σ x1 x2 x3) (fun r => (zQ [5, 11, 12] [(30, 3, 8), (30, 14, 16), (32, 65, 67), (32, 128, 271)] [5, 46, 48] [(38, 3, 6)]) σ0 (r.1)) := by
  unfold fX10_louder
  exact zpc_if (fun _ => zpc_some h) (fun _ => zpc_if (fun _ => zpc_bi (fq_fX10_tickAt h) (fun σ1 v2 hσ1 => zpc_if (fun _ => zpc_ck (fq_fX10_louder_56 hσ1)) (fun _ => fq_fX10_louder_56 hσ1))) (fun _ => zpc_bi (fq_fX10_slowTick h) (fun σ3 v4 hσ3 => zpc_some hσ3)))
theorem fq_fX10_softer {σ0 : zSt} {σ : zSt} {x1 : Int32} {x2 : Int32} (h : (zQ [5, 11, 12] [(30, 3, 8), (30, 14, 16), (32, 65, 67), (32, 128, 271)] [5, 46, 48] [(38, 3, 6)]) σ0 σ) : zpc (fX10_softer σ x1 x2) (fun r => (zQ [5, 11, 12] [(30, 3, 8), (30, 14, 16), (32, 65, 67), (32, 128, 271)] [5, 46, 48] [(38, 3, 6)]) σ0 (r.1)) := by
  unfold fX10_softer
  exact zpc_if (fun _ => zpc_bi (fq_fX10_slowTick h) (fun σ1 v2 hσ1 => zpc_ck (zpc_some hσ1))) (fun _ => zpc_if (fun _ => zpc_bi (fq_fX10_slowTick h) (fun σ3 v4 hσ3 => zpc_some hσ3)) (fun _ => zpc_if (fun _ => zpc_some h) (fun _ => zpc_bi (fq_fX10_tickAt h) (fun σ5 v6 hσ5 => zpc_some hσ5))))
theorem fq_fX10_moveLevel_148 {σ0 : zSt} {σ : zSt} (h : (zQ [5, 11, 12] [(30, 3, 8), (30, 14, 16), (32, 65, 67), (32, 128, 271)] [5, 46, 48] [(38, 3, 6)]) σ0 σ) : zpc (fX10_moveLevel_148 σ) (fun r => (zQ [5, 11, 12] [(30, 3, 8), (30, 14, 16), (32, 65, 67), (32, 128, 271)] [5, 46, 48] [(38, 3, 6)]) σ0 (r)) := by
  unfold fX10_moveLevel_148
  exact zpc_some h
theorem fq_fX10_moveLevel_52 {σ0 : zSt} {σ : zSt} {x1 : Int32} {x3 : Int32} {x4 : Int32} (h : (zQ [5, 11, 12] [(30, 3, 8), (30, 14, 16), (32, 65, 67), (32, 128, 271)] [5, 46, 48] [(38, 3, 6)]) σ0 σ) (qx1 : zr 128 264 x1) : zpc (fX10_moveLevel_52 σ x1 x3 x4) (fun r => (zQ [5, 11, 12] [(30, 3, 8), (30, 14, 16), (32, 65, 67), (32, 128, 271)] [5, 46, 48] [(38, 3, 6)]) σ0 (r)) := by
  unfold fX10_moveLevel_52
  exact zpc_ck (zpc_bv (fun v1 _ => zpc_ck (zpc_bv (fun v2 _ => zpc_ck (zpc_if (fun _ => zpc_ck (zpc_bi (fq_fX10_louder h) (fun σ6 v7 hσ6 => zpc_ck (zpc_bs (zQ.wr (a := 128) (b := 271) (lo := 128) (hi := 264) hσ6 (zr_add (lo := 128) (hi := 264) qx1 (zr_c (x := 0) (lo := 0) (hi := 0) (by decide)) (by decide)) rfl (by decide)) (fun σ8 hσ8 => fq_fX10_moveLevel_148 hσ8))))) (fun _ => zpc_ck (zpc_bi (fq_fX10_softer h) (fun σ3 v4 hσ3 => zpc_ck (zpc_bs (zQ.wr (a := 128) (b := 271) (lo := 128) (hi := 264) hσ3 (zr_add (lo := 128) (hi := 264) qx1 (zr_c (x := 0) (lo := 0) (hi := 0) (by decide)) (by decide)) rfl (by decide)) (fun σ5 hσ5 => fq_fX10_moveLevel_148 hσ5))))))))))
theorem fq_fX10_moveLevel {σ0 : zSt} {σ : zSt} {x1 : Int32} {x2 : Int32} (h : (zQ [5, 11, 12] [(30, 3, 8), (30, 14, 16), (32, 65, 67), (32, 128, 271)] [5, 46, 48] [(38, 3, 6)]) σ0 σ) (qx1 : zr 128 264 x1) : zpc (fX10_moveLevel σ x1 x2) (fun r => (zQ [5, 11, 12] [(30, 3, 8), (30, 14, 16), (32, 65, 67), (32, 128, 271)] [5, 46, 48] [(38, 3, 6)]) σ0 (r)) := by
  unfold fX10_moveLevel
  exact zpc_ck (zpc_bi (fq_fX10_rateIn h) (fun σ9 v10 hσ9 => zpc_if (fun _ => zpc_some hσ9) (fun _ => zpc_bv (fun v11 _ => zpc_bi (fq_fX10_part hσ9) (fun σ12 v13 hσ12 => zpc_if (fun _ => zpc_ck (zpc_bv (fun v14 _ => fq_fX10_moveLevel_52 hσ12 qx1))) (fun _ => fq_fX10_moveLevel_52 hσ12 qx1))))))
theorem fq_fX10_moveState_96 {σ0 : zSt} {σ : zSt} (h : (zQ [5, 11, 12] [(30, 3, 8), (30, 14, 16), (32, 65, 67), (32, 128, 271)] [5, 46, 48] [(38, 3, 6)]) σ0 σ) : zpc (fX10_moveState_96 σ) (fun r => (zQ [5, 11, 12] [(30, 3, 8), (30, 14, 16), (32, 65, 67), (32, 128, 271)] [5, 46, 48] [(38, 3, 6)]) σ0 (r)) := by
  unfold fX10_moveState_96
  exact zpc_some h
theorem fq_fX10_moveState_73 {σ0 : zSt} {σ : zSt} {x1 : Int32} {x2 : Int32} {x3 : Int32} {x4 : Int32} (h : (zQ [5, 11, 12] [(30, 3, 8), (30, 14, 16), (32, 65, 67), (32, 128, 271)] [5, 46, 48] [(38, 3, 6)]) σ0 σ) (qx1 : zr 128 264 x1) : zpc (fX10_moveState_73 σ x1 x2 x3 x4) (fun r => (zQ [5, 11, 12] [(30, 3, 8), (30, 14, 16), (32, 65, 67), (32, 128, 271)] [5, 46, 48] [(38, 3, 6)]) σ0 (r)) := by
  unfold fX10_moveState_73
  exact zpc_if (fun _ => zpc_ck (zpc_if (fun _ => fq_fX10_moveState_96 h) (fun _ => zpc_ck (zpc_bs (zQ.wr (a := 128) (b := 271) (lo := 129) (hi := 265) h (zr_add (lo := 129) (hi := 265) qx1 (zr_c (x := 1) (lo := 1) (hi := 1) (by decide)) (by decide)) rfl (by decide)) (fun σ1 hσ1 => fq_fX10_moveState_96 hσ1))))) (fun _ => fq_fX10_moveState_96 h)
theorem fq_fX10_moveState_51 {σ0 : zSt} {σ : zSt} {x1 : Int32} {x2 : Int32} {x3 : Int32} {x4 : Int32} (h : (zQ [5, 11, 12] [(30, 3, 8), (30, 14, 16), (32, 65, 67), (32, 128, 271)] [5, 46, 48] [(38, 3, 6)]) σ0 σ) (qx1 : zr 128 264 x1) : zpc (fX10_moveState_51 σ x1 x2 x3 x4) (fun r => (zQ [5, 11, 12] [(30, 3, 8), (30, 14, 16), (32, 65, 67), (32, 128, 271)] [5, 46, 48] [(38, 3, 6)]) σ0 (r)) := by
  unfold fX10_moveState_51
  exact zpc_if (fun _ => zpc_if (fun _ => zpc_ck (zpc_bs (zQ.wr (a := 128) (b := 271) (lo := 129) (hi := 265) h (zr_add (lo := 129) (hi := 265) qx1 (zr_c (x := 1) (lo := 1) (hi := 1) (by decide)) (by decide)) rfl (by decide)) (fun σ2 hσ2 => fq_fX10_moveState_96 hσ2))) (fun _ => fq_fX10_moveState_73 h qx1)) (fun _ => fq_fX10_moveState_73 h qx1)
theorem fq_fX10_moveState {σ0 : zSt} {σ : zSt} {x1 : Int32} {x2 : Int32} (h : (zQ [5, 11, 12] [(30, 3, 8), (30, 14, 16), (32, 65, 67), (32, 128, 271)] [5, 46, 48] [(38, 3, 6)]) σ0 σ) (qx1 : zr 128 264 x1) : zpc (fX10_moveState σ x1 x2) (fun r => (zQ [5, 11, 12] [(30, 3, 8), (30, 14, 16), (32, 65, 67), (32, 128, 271)] [5, 46, 48] [(38, 3, 6)]) σ0 (r)) := by
  unfold fX10_moveState
  exact zpc_ck (zpc_bv (fun v3 _ => zpc_ck (zpc_bv (fun v4 _ => zpc_if (fun _ => zpc_if (fun _ => fq_fX10_moveState_51 h qx1) (fun _ => zpc_ck (zpc_bs (zQ.wr (a := 128) (b := 271) (lo := 129) (hi := 265) h (zr_add (lo := 129) (hi := 265) qx1 (zr_c (x := 1) (lo := 1) (hi := 1) (by decide)) (by decide)) rfl (by decide)) (fun σ5 hσ5 => zpc_ck (zpc_bs (zQ.wr (a := 128) (b := 271) (lo := 130) (hi := 266) hσ5 (zr_add (lo := 130) (hi := 266) qx1 (zr_c (x := 2) (lo := 2) (hi := 2) (by decide)) (by decide)) rfl (by decide)) (fun σ6 hσ6 => fq_fX10_moveState_96 hσ6)))))) (fun _ => fq_fX10_moveState_51 h qx1)))))
theorem fq_fX10_sway_56 {σ0 : zSt} {σ : zSt} {x1 : Int32} (h : (zQ [5, 11, 12] [(30, 3, 8), (30, 14, 16), (32, 65, 67), (32, 128, 271)] [5, 46, 48] [(38, 3, 6)]) σ0 σ) : zpc (fX10_sway_56 σ x1) (fun r => (zQ [5, 11, 12] [(30, 3, 8), (30, 14, 16), (32, 65, 67), (32, 128, 271)] [5, 46, 48] [(38, 3, 6)]) σ0 (r.1)) := by
  unfold fX10_sway_56
  exact zpc_ck (zpc_some h)
theorem fq_fX10_sway_70 {σ0 : zSt} {σ : zSt} (h : (zQ [5, 11, 12] [(30, 3, 8), (30, 14, 16), (32, 65, 67), (32, 128, 271)] [5, 46, 48] [(38, 3, 6)]) σ0 σ) : zpc (fX10_sway_70 σ) (fun r => (zQ [5, 11, 12] [(30, 3, 8), (30, 14, 16), (32, 65, 67), (32, 128, 271)] [5, 46, 48] [(38, 3, 6)]) σ0 (r.1)) := by
  unfold fX10_sway_70
  exact zpc_some h
theorem fq_fX10_sway_62 {σ0 : zSt} {σ : zSt} {x1 : Int32} (h : (zQ [5, 11, 12] [(30, 3, 8), (30, 14, 16), (32, 65, 67), (32, 128, 271)] [5, 46, 48] [(38, 3, 6)]) σ0 σ) : zpc (fX10_sway_62 σ x1) (fun r => (zQ [5, 11, 12] [(30, 3, 8), (30, 14, 16), (32, 65, 67), (32, 128, 271)] [5, 46, 48] [(38, 3, 6)]) σ0 (r.1)) := by
  unfold fX10_sway_62
  exact zpc_ck (zpc_some h)
theorem fq_fX10_sway {σ0 : zSt} {σ : zSt} {x1 : Int32} (h : (zQ [5, 11, 12] [(30, 3, 8), (30, 14, 16), (32, 65, 67), (32, 128, 271)] [5, 46, 48] [(38, 3, 6)]) σ0 σ) : zpc (fX10_sway σ x1) (fun r => (zQ [5, 11, 12] [(30, 3, 8), (30, 14, 16), (32, 65, 67), (32, 128, 271)] [5, 46, 48] [(38, 3, 6)]) σ0 (r.1)) := by
  unfold fX10_sway
  exact zpc_ck (zpc_if (fun _ => fq_fX10_sway_56 h) (fun _ => zpc_if (fun _ => zpc_some h) (fun _ => zpc_if (fun _ => fq_fX10_sway_56 h) (fun _ => zpc_if (fun _ => fq_fX10_sway_70 h) (fun _ => zpc_if (fun _ => fq_fX10_sway_62 h) (fun _ => zpc_if (fun _ => zpc_some h) (fun _ => zpc_if (fun _ => fq_fX10_sway_62 h) (fun _ => fq_fX10_sway_70 h))))))))
theorem fq_fX10_movePhase_22 {σ0 : zSt} {σ : zSt} {x1 : Int32} {x2 : Int32} {s0 : Int32} (h : (zQ [5, 11, 12] [(30, 3, 8), (30, 14, 16), (32, 65, 67), (32, 128, 271)] [5, 46, 48] [(38, 3, 6)]) σ0 σ) (qx1 : zr 128 264 x1) : zpc (fX10_movePhase_22 σ x1 x2 s0) (fun r => (zQ [5, 11, 12] [(30, 3, 8), (30, 14, 16), (32, 65, 67), (32, 128, 271)] [5, 46, 48] [(38, 3, 6)]) σ0 (r)) := by
  unfold fX10_movePhase_22
  exact zpc_ck (zpc_ck (zpc_bv (fun v1 _ => zpc_ck (zpc_ck (zpc_bs (zQ.wr (a := 128) (b := 271) (lo := 130) (hi := 266) h (zr_add (lo := 130) (hi := 266) qx1 (zr_c (x := 2) (lo := 2) (hi := 2) (by decide)) (by decide)) rfl (by decide)) (fun σ2 hσ2 => zpc_some hσ2))))))
theorem fq_fX10_movePhase {σ0 : zSt} {σ : zSt} {x1 : Int32} {x2 : Int32} (h : (zQ [5, 11, 12] [(30, 3, 8), (30, 14, 16), (32, 65, 67), (32, 128, 271)] [5, 46, 48] [(38, 3, 6)]) σ0 σ) (qx1 : zr 128 264 x1) : zpc (fX10_movePhase σ x1 x2) (fun r => (zQ [5, 11, 12] [(30, 3, 8), (30, 14, 16), (32, 65, 67), (32, 128, 271)] [5, 46, 48] [(38, 3, 6)]) σ0 (r)) := by
  unfold fX10_movePhase
  exact zpc_if (fun _ => fq_fX10_movePhase_22 h qx1) (fun _ => zpc_ck (zpc_bi (fq_fX10_sway h) (fun σ3 v4 hσ3 => fq_fX10_movePhase_22 hσ3 qx1)))
theorem fq_fX10_drumPhase_115 {σ0 : zSt} {σ : zSt} {s0 : Int32} (h : (zQ [5, 11, 12] [(30, 3, 8), (30, 14, 16), (32, 65, 67), (32, 128, 271)] [5, 46, 48] [(38, 3, 6)]) σ0 σ) : zpc (fX10_drumPhase_115 σ s0) (fun r => (zQ [5, 11, 12] [(30, 3, 8), (30, 14, 16), (32, 65, 67), (32, 128, 271)] [5, 46, 48] [(38, 3, 6)]) σ0 (r.1)) := by
  unfold fX10_drumPhase_115
  exact zpc_some h
theorem fq_fX10_drumPhase_155 {σ0 : zSt} {σ : zSt} {s0 : Int32} (h : (zQ [5, 11, 12] [(30, 3, 8), (30, 14, 16), (32, 65, 67), (32, 128, 271)] [5, 46, 48] [(38, 3, 6)]) σ0 σ) : zpc (fX10_drumPhase_155 σ s0) (fun r => (zQ [5, 11, 12] [(30, 3, 8), (30, 14, 16), (32, 65, 67), (32, 128, 271)] [5, 46, 48] [(38, 3, 6)]) σ0 (r.1)) := by
  unfold fX10_drumPhase_155
  exact zpc_some h
theorem fq_fX10_drumPhase_193 {σ0 : zSt} {σ : zSt} {s0 : Int32} (h : (zQ [5, 11, 12] [(30, 3, 8), (30, 14, 16), (32, 65, 67), (32, 128, 271)] [5, 46, 48] [(38, 3, 6)]) σ0 σ) : zpc (fX10_drumPhase_193 σ s0) (fun r => (zQ [5, 11, 12] [(30, 3, 8), (30, 14, 16), (32, 65, 67), (32, 128, 271)] [5, 46, 48] [(38, 3, 6)]) σ0 (r.1)) := by
  unfold fX10_drumPhase_193
  exact zpc_some h
theorem fq_fX10_drumPhase_82 {σ0 : zSt} {σ : zSt} {x1 : Int32} {x2 : Int32} {x5 : Int32} {s0 : Int32} (h : (zQ [5, 11, 12] [(30, 3, 8), (30, 14, 16), (32, 65, 67), (32, 128, 271)] [5, 46, 48] [(38, 3, 6)]) σ0 σ) : zpc (fX10_drumPhase_82 σ x1 x2 x5 s0) (fun r => (zQ [5, 11, 12] [(30, 3, 8), (30, 14, 16), (32, 65, 67), (32, 128, 271)] [5, 46, 48] [(38, 3, 6)]) σ0 (r.1)) := by
  unfold fX10_drumPhase_82
  exact zpc_if (fun _ => zpc_if (fun _ => fq_fX10_drumPhase_115 h) (fun _ => zpc_if (fun _ => fq_fX10_drumPhase_115 h) (fun _ => fq_fX10_drumPhase_115 h))) (fun _ => zpc_if (fun _ => zpc_if (fun _ => zpc_if (fun _ => fq_fX10_drumPhase_155 h) (fun _ => fq_fX10_drumPhase_155 h)) (fun _ => zpc_if (fun _ => fq_fX10_drumPhase_155 h) (fun _ => fq_fX10_drumPhase_155 h))) (fun _ => zpc_if (fun _ => zpc_if (fun _ => fq_fX10_drumPhase_193 h) (fun _ => fq_fX10_drumPhase_193 h)) (fun _ => zpc_if (fun _ => fq_fX10_drumPhase_193 h) (fun _ => fq_fX10_drumPhase_193 h))))
theorem fq_fX10_drumPhase_62 {σ0 : zSt} {σ : zSt} {x1 : Int32} {x2 : Int32} {s0 : Int32} (h : (zQ [5, 11, 12] [(30, 3, 8), (30, 14, 16), (32, 65, 67), (32, 128, 271)] [5, 46, 48] [(38, 3, 6)]) σ0 σ) : zpc (fX10_drumPhase_62 σ x1 x2 s0) (fun r => (zQ [5, 11, 12] [(30, 3, 8), (30, 14, 16), (32, 65, 67), (32, 128, 271)] [5, 46, 48] [(38, 3, 6)]) σ0 (r.1)) := by
  unfold fX10_drumPhase_62
  exact zpc_ck (zpc_if (fun _ => fq_fX10_drumPhase_82 h) (fun _ => fq_fX10_drumPhase_82 h))
theorem fq_fX10_drumPhase {σ0 : zSt} {σ : zSt} {x1 : Int32} {x2 : Int32} (h : (zQ [5, 11, 12] [(30, 3, 8), (30, 14, 16), (32, 65, 67), (32, 128, 271)] [5, 46, 48] [(38, 3, 6)]) σ0 σ) : zpc (fX10_drumPhase σ x1 x2) (fun r => (zQ [5, 11, 12] [(30, 3, 8), (30, 14, 16), (32, 65, 67), (32, 128, 271)] [5, 46, 48] [(38, 3, 6)]) σ0 (r.1)) := by
  unfold fX10_drumPhase
  exact zpc_ck (zpc_bv (fun v1 _ => zpc_ck (zpc_bv (fun v2 _ => zpc_if (fun _ => fq_fX10_drumPhase_62 h) (fun _ => fq_fX10_drumPhase_62 h)))))
theorem fq_fX10_turnedPhase_98 {σ0 : zSt} {σ : zSt} {s0 : Int32} (h : (zQ [5, 11, 12] [(30, 3, 8), (30, 14, 16), (32, 65, 67), (32, 128, 271)] [5, 46, 48] [(38, 3, 6)]) σ0 σ) : zpc (fX10_turnedPhase_98 σ s0) (fun r => (zQ [5, 11, 12] [(30, 3, 8), (30, 14, 16), (32, 65, 67), (32, 128, 271)] [5, 46, 48] [(38, 3, 6)]) σ0 (r.1)) := by
  unfold fX10_turnedPhase_98
  exact zpc_some h
theorem fq_fX10_turnedPhase_35 {σ0 : zSt} {σ : zSt} {x1 : Int32} {x2 : Int32} {x3 : Int32} (h : (zQ [5, 11, 12] [(30, 3, 8), (30, 14, 16), (32, 65, 67), (32, 128, 271)] [5, 46, 48] [(38, 3, 6)]) σ0 σ) : zpc (fX10_turnedPhase_35 σ x1 x2 x3) (fun r => (zQ [5, 11, 12] [(30, 3, 8), (30, 14, 16), (32, 65, 67), (32, 128, 271)] [5, 46, 48] [(38, 3, 6)]) σ0 (r.1)) := by
  unfold fX10_turnedPhase_35
  exact zpc_if (fun _ => zpc_ck (zpc_some h)) (fun _ => zpc_bi (fq_fX10_part h) (fun σ1 v2 hσ1 => zpc_bv (fun v3 _ => zpc_if (fun _ => fq_fX10_turnedPhase_98 hσ1) (fun _ => zpc_ck (zpc_ck (fq_fX10_turnedPhase_98 hσ1))))))
theorem fq_fX10_turnedPhase {σ0 : zSt} {σ : zSt} {x1 : Int32} {x2 : Int32} (h : (zQ [5, 11, 12] [(30, 3, 8), (30, 14, 16), (32, 65, 67), (32, 128, 271)] [5, 46, 48] [(38, 3, 6)]) σ0 σ) : zpc (fX10_turnedPhase σ x1 x2) (fun r => (zQ [5, 11, 12] [(30, 3, 8), (30, 14, 16), (32, 65, 67), (32, 128, 271)] [5, 46, 48] [(38, 3, 6)]) σ0 (r.1)) := by
  unfold fX10_turnedPhase
  exact zpc_ck (zpc_bv (fun v4 _ => zpc_if (fun _ => fq_fX10_turnedPhase_35 h) (fun _ => zpc_if (fun _ => fq_fX10_turnedPhase_35 h) (fun _ => zpc_bi (fq_fX10_drumPhase h) (fun σ5 v6 hσ5 => zpc_some hσ5)))))
theorem fq_fX10_scaled_44 {σ0 : zSt} {σ : zSt} {s0 : Int32} (h : (zQ [5, 11, 12] [(30, 3, 8), (30, 14, 16), (32, 65, 67), (32, 128, 271)] [5, 46, 48] [(38, 3, 6)]) σ0 σ) : zpc (fX10_scaled_44 σ s0) (fun r => (zQ [5, 11, 12] [(30, 3, 8), (30, 14, 16), (32, 65, 67), (32, 128, 271)] [5, 46, 48] [(38, 3, 6)]) σ0 (r.1)) := by
  unfold fX10_scaled_44
  exact zpc_some h
theorem fq_fX10_scaled {σ0 : zSt} {σ : zSt} {x1 : Int32} (h : (zQ [5, 11, 12] [(30, 3, 8), (30, 14, 16), (32, 65, 67), (32, 128, 271)] [5, 46, 48] [(38, 3, 6)]) σ0 σ) : zpc (fX10_scaled σ x1) (fun r => (zQ [5, 11, 12] [(30, 3, 8), (30, 14, 16), (32, 65, 67), (32, 128, 271)] [5, 46, 48] [(38, 3, 6)]) σ0 (r.1)) := by
  unfold fX10_scaled
  exact zpc_if (fun _ => zpc_some h) (fun _ => zpc_ck (zpc_bv (fun v1 _ => zpc_if (fun _ => fq_fX10_scaled_44 h) (fun _ => fq_fX10_scaled_44 h))))
theorem fq_fX10_tremble_30 {σ0 : zSt} {σ : zSt} {s0 : Int32} (h : (zQ [5, 11, 12] [(30, 3, 8), (30, 14, 16), (32, 65, 67), (32, 128, 271)] [5, 46, 48] [(38, 3, 6)]) σ0 σ) : zpc (fX10_tremble_30 σ s0) (fun r => (zQ [5, 11, 12] [(30, 3, 8), (30, 14, 16), (32, 65, 67), (32, 128, 271)] [5, 46, 48] [(38, 3, 6)]) σ0 (r.1)) := by
  unfold fX10_tremble_30
  exact zpc_ck (zpc_some h)
theorem fq_fX10_tremble {σ0 : zSt} {σ : zSt} (h : (zQ [5, 11, 12] [(30, 3, 8), (30, 14, 16), (32, 65, 67), (32, 128, 271)] [5, 46, 48] [(38, 3, 6)]) σ0 σ) : zpc (fX10_tremble σ) (fun r => (zQ [5, 11, 12] [(30, 3, 8), (30, 14, 16), (32, 65, 67), (32, 128, 271)] [5, 46, 48] [(38, 3, 6)]) σ0 (r.1)) := by
  unfold fX10_tremble
  exact zpc_ck (zpc_ck (zpc_ck (zpc_bv (fun v1 _ => zpc_if (fun _ => fq_fX10_tremble_30 h) (fun _ => fq_fX10_tremble_30 h)))))
theorem fq_fX10_softness_124 {σ0 : zSt} {σ : zSt} {x4 : Int32} (h : (zQ [5, 11, 12] [(30, 3, 8), (30, 14, 16), (32, 65, 67), (32, 128, 271)] [5, 46, 48] [(38, 3, 6)]) σ0 σ) : zpc (fX10_softness_124 σ x4) (fun r => (zQ [5, 11, 12] [(30, 3, 8), (30, 14, 16), (32, 65, 67), (32, 128, 271)] [5, 46, 48] [(38, 3, 6)]) σ0 (r.1)) := by
  unfold fX10_softness_124
  exact zpc_some h
theorem fq_fX10_softness_103 {σ0 : zSt} {σ : zSt} {x2 : Int32} {x4 : Int32} (h : (zQ [5, 11, 12] [(30, 3, 8), (30, 14, 16), (32, 65, 67), (32, 128, 271)] [5, 46, 48] [(38, 3, 6)]) σ0 σ) : zpc (fX10_softness_103 σ x2 x4) (fun r => (zQ [5, 11, 12] [(30, 3, 8), (30, 14, 16), (32, 65, 67), (32, 128, 271)] [5, 46, 48] [(38, 3, 6)]) σ0 (r.1)) := by
  unfold fX10_softness_103
  exact zpc_bi (fq_fX10_part h) (fun σ1 v2 hσ1 => zpc_if (fun _ => fq_fX10_softness_124 hσ1) (fun _ => zpc_bi (fq_fX10_tremble hσ1) (fun σ3 v4 hσ3 => zpc_bv (fun v5 _ => fq_fX10_softness_124 hσ3))))
theorem fq_fX10_softness_88 {σ0 : zSt} {σ : zSt} {x2 : Int32} {x4 : Int32} (h : (zQ [5, 11, 12] [(30, 3, 8), (30, 14, 16), (32, 65, 67), (32, 128, 271)] [5, 46, 48] [(38, 3, 6)]) σ0 σ) : zpc (fX10_softness_88 σ x2 x4) (fun r => (zQ [5, 11, 12] [(30, 3, 8), (30, 14, 16), (32, 65, 67), (32, 128, 271)] [5, 46, 48] [(38, 3, 6)]) σ0 (r.1)) := by
  unfold fX10_softness_88
  exact zpc_bi (fq_fX10_part h) (fun σ6 v7 hσ6 => zpc_bv (fun v8 _ => fq_fX10_softness_103 hσ6))
theorem fq_fX10_softness {σ0 : zSt} {σ : zSt} {x1 : Int32} {x2 : Int32} (h : (zQ [5, 11, 12] [(30, 3, 8), (30, 14, 16), (32, 65, 67), (32, 128, 271)] [5, 46, 48] [(38, 3, 6)]) σ0 σ) : zpc (fX10_softness σ x1 x2) (fun r => (zQ [5, 11, 12] [(30, 3, 8), (30, 14, 16), (32, 65, 67), (32, 128, 271)] [5, 46, 48] [(38, 3, 6)]) σ0 (r.1)) := by
  unfold fX10_softness
  exact zpc_ck (zpc_bv (fun v9 _ => zpc_ck (zpc_bi (fq_fX10_part h) (fun σ10 v11 hσ10 => zpc_bi (fq_fX10_scaled hσ10) (fun σ12 v13 hσ12 => zpc_bv (fun v14 _ => zpc_if (fun _ => zpc_bv (fun v16 _ => fq_fX10_softness_103 hσ12)) (fun _ => zpc_if (fun _ => fq_fX10_softness_88 hσ12) (fun _ => zpc_if (fun _ => fq_fX10_softness_88 hσ12) (fun _ => zpc_bv (fun v15 _ => fq_fX10_softness_103 hσ12))))))))))
theorem fq_fX10_waveAt_104 {σ0 : zSt} {σ : zSt} {s0 : Int32} (h : (zQ [5, 11, 12] [(30, 3, 8), (30, 14, 16), (32, 65, 67), (32, 128, 271)] [5, 46, 48] [(38, 3, 6)]) σ0 σ) : zpc (fX10_waveAt_104 σ s0) (fun r => (zQ [5, 11, 12] [(30, 3, 8), (30, 14, 16), (32, 65, 67), (32, 128, 271)] [5, 46, 48] [(38, 3, 6)]) σ0 (r.1)) := by
  unfold fX10_waveAt_104
  exact zpc_some h
theorem fq_fX10_waveAt_49 {σ0 : zSt} {σ : zSt} {x1 : Int32} {x3 : Int32} {s0 : Int32} (h : (zQ [5, 11, 12] [(30, 3, 8), (30, 14, 16), (32, 65, 67), (32, 128, 271)] [5, 46, 48] [(38, 3, 6)]) σ0 σ) : zpc (fX10_waveAt_49 σ x1 x3 s0) (fun r => (zQ [5, 11, 12] [(30, 3, 8), (30, 14, 16), (32, 65, 67), (32, 128, 271)] [5, 46, 48] [(38, 3, 6)]) σ0 (r.1)) := by
  unfold fX10_waveAt_49
  exact zpc_ck (zpc_bv (fun v1 _ => zpc_ck (zpc_bv (fun v2 _ => zpc_if (fun _ => fq_fX10_waveAt_104 h) (fun _ => fq_fX10_waveAt_104 h)))))
theorem fq_fX10_waveAt_24 {σ0 : zSt} {σ : zSt} {x0 : Int32} {x1 : Int32} {x3 : Int32} (h : (zQ [5, 11, 12] [(30, 3, 8), (30, 14, 16), (32, 65, 67), (32, 128, 271)] [5, 46, 48] [(38, 3, 6)]) σ0 σ) : zpc (fX10_waveAt_24 σ x0 x1 x3) (fun r => (zQ [5, 11, 12] [(30, 3, 8), (30, 14, 16), (32, 65, 67), (32, 128, 271)] [5, 46, 48] [(38, 3, 6)]) σ0 (r.1)) := by
  unfold fX10_waveAt_24
  exact zpc_if (fun _ => fq_fX10_waveAt_49 h) (fun _ => fq_fX10_waveAt_49 h)
theorem fq_fX10_waveAt_13 {σ0 : zSt} {σ : zSt} {x0 : Int32} {x1 : Int32} {x2 : Int32} {s0 : Int32} (h : (zQ [5, 11, 12] [(30, 3, 8), (30, 14, 16), (32, 65, 67), (32, 128, 271)] [5, 46, 48] [(38, 3, 6)]) σ0 σ) : zpc (fX10_waveAt_13 σ x0 x1 x2 s0) (fun r => (zQ [5, 11, 12] [(30, 3, 8), (30, 14, 16), (32, 65, 67), (32, 128, 271)] [5, 46, 48] [(38, 3, 6)]) σ0 (r.1)) := by
  unfold fX10_waveAt_13
  exact zpc_if (fun _ => fq_fX10_waveAt_24 h) (fun _ => zpc_if (fun _ => fq_fX10_waveAt_24 h) (fun _ => zpc_some h))
theorem fq_fX10_waveAt {σ0 : zSt} {σ : zSt} {x0 : Int32} {x1 : Int32} {x2 : Int32} (h : (zQ [5, 11, 12] [(30, 3, 8), (30, 14, 16), (32, 65, 67), (32, 128, 271)] [5, 46, 48] [(38, 3, 6)]) σ0 σ) : zpc (fX10_waveAt σ x0 x1 x2) (fun r => (zQ [5, 11, 12] [(30, 3, 8), (30, 14, 16), (32, 65, 67), (32, 128, 271)] [5, 46, 48] [(38, 3, 6)]) σ0 (r.1)) := by
  unfold fX10_waveAt
  exact zpc_if (fun _ => fq_fX10_waveAt_13 h) (fun _ => fq_fX10_waveAt_13 h)
theorem fq_fX10_moveOut_55 {σ0 : zSt} {σ : zSt} {x1 : Int32} {x3 : Int32} (h : (zQ [5, 11, 12] [(30, 3, 8), (30, 14, 16), (32, 65, 67), (32, 128, 271)] [5, 46, 48] [(38, 3, 6)]) σ0 σ) (qx1 : zr 128 264 x1) : zpc (fX10_moveOut_55 σ x1 x3) (fun r => (zQ [5, 11, 12] [(30, 3, 8), (30, 14, 16), (32, 65, 67), (32, 128, 271)] [5, 46, 48] [(38, 3, 6)]) σ0 (r)) := by
  unfold fX10_moveOut_55
  exact zpc_ck (zpc_ck (zpc_bs (zQ.wr (a := 128) (b := 271) (lo := 132) (hi := 268) h (zr_add (lo := 132) (hi := 268) qx1 (zr_c (x := 4) (lo := 4) (hi := 4) (by decide)) (by decide)) rfl (by decide)) (fun σ1 hσ1 => zpc_ck (zpc_bs (zQ.wr (a := 128) (b := 271) (lo := 131) (hi := 267) hσ1 (zr_add (lo := 131) (hi := 267) qx1 (zr_c (x := 3) (lo := 3) (hi := 3) (by decide)) (by decide)) rfl (by decide)) (fun σ2 hσ2 => zpc_some hσ2)))))
theorem fq_fX10_moveOut_51 {σ0 : zSt} {σ : zSt} {x1 : Int32} {s0 : Int32} {s1 : Int32} {s2 : Int32} (h : (zQ [5, 11, 12] [(30, 3, 8), (30, 14, 16), (32, 65, 67), (32, 128, 271)] [5, 46, 48] [(38, 3, 6)]) σ0 σ) (qx1 : zr 128 264 x1) : zpc (fX10_moveOut_51 σ x1 s0 s1 s2) (fun r => (zQ [5, 11, 12] [(30, 3, 8), (30, 14, 16), (32, 65, 67), (32, 128, 271)] [5, 46, 48] [(38, 3, 6)]) σ0 (r)) := by
  unfold fX10_moveOut_51
  exact zpc_bi (fq_fX10_waveAt h) (fun σ3 v4 hσ3 => fq_fX10_moveOut_55 hσ3 qx1)
theorem fq_fX10_moveOut {σ0 : zSt} {σ : zSt} {x1 : Int32} {x2 : Int32} (h : (zQ [5, 11, 12] [(30, 3, 8), (30, 14, 16), (32, 65, 67), (32, 128, 271)] [5, 46, 48] [(38, 3, 6)]) σ0 σ) (qx1 : zr 128 264 x1) : zpc (fX10_moveOut σ x1 x2) (fun r => (zQ [5, 11, 12] [(30, 3, 8), (30, 14, 16), (32, 65, 67), (32, 128, 271)] [5, 46, 48] [(38, 3, 6)]) σ0 (r)) := by
  unfold fX10_moveOut
  exact zpc_ck (zpc_if (fun _ => fq_fX10_moveOut_55 h qx1) (fun _ => zpc_bi (fq_fX10_turnedPhase h) (fun σ5 v6 hσ5 => zpc_bi (fq_fX10_softness hσ5) (fun σ7 v8 hσ7 => zpc_bi (fq_fX10_part hσ7) (fun σ9 v10 hσ9 => zpc_if (fun _ => fq_fX10_moveOut_51 hσ9 qx1) (fun _ => fq_fX10_moveOut_51 hσ9 qx1))))))
theorem fq_fX10_moveOperator_99 {σ0 : zSt} {σ : zSt} {x1 : Int32} {x2 : Int32} (h : (zQ [5, 11, 12] [(30, 3, 8), (30, 14, 16), (32, 65, 67), (32, 128, 271)] [5, 46, 48] [(38, 3, 6)]) σ0 σ) (qx1 : zr 128 264 x1) : zpc (fX10_moveOperator_99 σ x1 x2) (fun r => (zQ [5, 11, 12] [(30, 3, 8), (30, 14, 16), (32, 65, 67), (32, 128, 271)] [5, 46, 48] [(38, 3, 6)]) σ0 (r)) := by
  unfold fX10_moveOperator_99
  exact zpc_bi (fq_fX10_part h) (fun σ1 v2 hσ1 => zpc_bu (fq_fX10_movePhase hσ1 qx1) (fun σ3 hσ3 => zpc_bu (fq_fX10_moveOut hσ3 qx1) (fun σ4 hσ4 => zpc_some hσ4)))
theorem fq_fX10_moveOperator_78 {σ0 : zSt} {σ : zSt} {x1 : Int32} {x2 : Int32} (h : (zQ [5, 11, 12] [(30, 3, 8), (30, 14, 16), (32, 65, 67), (32, 128, 271)] [5, 46, 48] [(38, 3, 6)]) σ0 σ) (qx1 : zr 128 264 x1) : zpc (fX10_moveOperator_78 σ x1 x2) (fun r => (zQ [5, 11, 12] [(30, 3, 8), (30, 14, 16), (32, 65, 67), (32, 128, 271)] [5, 46, 48] [(38, 3, 6)]) σ0 (r)) := by
  unfold fX10_moveOperator_78
  exact zpc_bu (fq_fX10_moveLevel h qx1) (fun σ5 hσ5 => zpc_bi (fq_fX10_part hσ5) (fun σ6 v7 hσ6 => zpc_bu (fq_fX10_moveState hσ6 qx1) (fun σ8 hσ8 => fq_fX10_moveOperator_99 hσ8 qx1)))
theorem fq_fX10_moveOperator_53 {σ0 : zSt} {σ : zSt} {x1 : Int32} {x2 : Int32} (h : (zQ [5, 11, 12] [(30, 3, 8), (30, 14, 16), (32, 65, 67), (32, 128, 271)] [5, 46, 48] [(38, 3, 6)]) σ0 σ) (qx1 : zr 128 264 x1) : zpc (fX10_moveOperator_53 σ x1 x2) (fun r => (zQ [5, 11, 12] [(30, 3, 8), (30, 14, 16), (32, 65, 67), (32, 128, 271)] [5, 46, 48] [(38, 3, 6)]) σ0 (r)) := by
  unfold fX10_moveOperator_53
  exact zpc_ck (zpc_if (fun _ => zpc_ck (zpc_if (fun _ => fq_fX10_moveOperator_99 h qx1) (fun _ => fq_fX10_moveOperator_78 h qx1))) (fun _ => fq_fX10_moveOperator_78 h qx1))
theorem fq_fX10_moveOperator_52 {σ0 : zSt} {σ : zSt} {x1 : Int32} {x2 : Int32} {s0 : Int32} {s1 : Int32} (h : (zQ [5, 11, 12] [(30, 3, 8), (30, 14, 16), (32, 65, 67), (32, 128, 271)] [5, 46, 48] [(38, 3, 6)]) σ0 σ) (qx1 : zr 128 264 x1) (qs1 : zr 129 265 s1) : zpc (fX10_moveOperator_52 σ x1 x2 s0 s1) (fun r => (zQ [5, 11, 12] [(30, 3, 8), (30, 14, 16), (32, 65, 67), (32, 128, 271)] [5, 46, 48] [(38, 3, 6)]) σ0 (r)) := by
  unfold fX10_moveOperator_52
  exact zpc_ck (zpc_bs (zQ.wr (a := 128) (b := 271) (lo := 129) (hi := 265) h qs1 rfl (by decide)) (fun σ9 hσ9 => fq_fX10_moveOperator_53 hσ9 qx1))
theorem fq_fX10_moveOperator_13 {σ0 : zSt} {σ : zSt} {x1 : Int32} {x2 : Int32} {s0 : Int32} (h : (zQ [5, 11, 12] [(30, 3, 8), (30, 14, 16), (32, 65, 67), (32, 128, 271)] [5, 46, 48] [(38, 3, 6)]) σ0 σ) (qx1 : zr 128 264 x1) : zpc (fX10_moveOperator_13 σ x1 x2 s0) (fun r => (zQ [5, 11, 12] [(30, 3, 8), (30, 14, 16), (32, 65, 67), (32, 128, 271)] [5, 46, 48] [(38, 3, 6)]) σ0 (r)) := by
  unfold fX10_moveOperator_13
  exact zpc_ck (zpc_if (fun _ => fq_fX10_moveOperator_53 h qx1) (fun _ => zpc_ck (zpc_bs (zQ.wr (a := 128) (b := 271) (lo := 133) (hi := 269) h (zr_add (lo := 133) (hi := 269) qx1 (zr_c (x := 5) (lo := 5) (hi := 5) (by decide)) (by decide)) rfl (by decide)) (fun σ10 hσ10 => zpc_if (fun _ => fq_fX10_moveOperator_52 hσ10 qx1 (zr_add (lo := 129) (hi := 265) qx1 (zr_c (x := 1) (lo := 1) (hi := 1) (by decide)) (by decide))) (fun _ => fq_fX10_moveOperator_52 hσ10 qx1 (zr_add (lo := 129) (hi := 265) qx1 (zr_c (x := 1) (lo := 1) (hi := 1) (by decide)) (by decide)))))))
theorem fq_fX10_moveOperator {σ0 : zSt} {σ : zSt} {x1 : Int32} {x2 : Int32} (h : (zQ [5, 11, 12] [(30, 3, 8), (30, 14, 16), (32, 65, 67), (32, 128, 271)] [5, 46, 48] [(38, 3, 6)]) σ0 σ) (qx1 : zr 128 264 x1) : zpc (fX10_moveOperator σ x1 x2) (fun r => (zQ [5, 11, 12] [(30, 3, 8), (30, 14, 16), (32, 65, 67), (32, 128, 271)] [5, 46, 48] [(38, 3, 6)]) σ0 (r)) := by
  unfold fX10_moveOperator
  exact zpc_bi (fq_fX10_isOn h) (fun σ11 v12 hσ11 => zpc_if (fun _ => fq_fX10_moveOperator_13 hσ11 qx1) (fun _ => fq_fX10_moveOperator_13 hσ11 qx1))
theorem fq_fX10_makeNext_136 {σ0 : zSt} {k41 : zSt → Int32 → Int32 → Option (zSt)} (hk41 : ∀ (y0 : zSt) (y1 : Int32) (y2 : Int32), (zQ [5, 11, 12] [(30, 3, 8), (30, 14, 16), (32, 65, 67), (32, 128, 271)] [5, 46, 48] [(38, 3, 6)]) σ0 y0 → zr 0 9 y2 → zpc (k41 y0 y1 y2) (fun r => (zQ [5, 11, 12] [(30, 3, 8), (30, 14, 16), (32, 65, 67), (32, 128, 271)] [5, 46, 48] [(38, 3, 6)]) σ0 (r))) {σ : zSt} {x2 : Int32} {s0 : Int32} {s1 : Int32} {s2 : Int32} (h : (zQ [5, 11, 12] [(30, 3, 8), (30, 14, 16), (32, 65, 67), (32, 128, 271)] [5, 46, 48] [(38, 3, 6)]) σ0 σ) (qx2 : zr 0 8 x2) : zpc (fX10_makeNext_136 k41 σ x2 s0 s1 s2) (fun r => (zQ [5, 11, 12] [(30, 3, 8), (30, 14, 16), (32, 65, 67), (32, 128, 271)] [5, 46, 48] [(38, 3, 6)]) σ0 (r)) := by
  unfold fX10_makeNext_136
  exact zpc_bv (fun v1 _ => zpc_bv (fun v2 ev2 => hk41 _ _ _ h (zr_w (show zr 1 9 v2 by rw [ev2]; exact (zr_add (lo := 1) (hi := 9) qx2 (zr_c (x := 1) (lo := 1) (hi := 1) (by decide)) (by decide))) (by decide))))
theorem fq_fX10_makeNext_135 {σ0 : zSt} {k41 : zSt → Int32 → Int32 → Option (zSt)} (hk41 : ∀ (y0 : zSt) (y1 : Int32) (y2 : Int32), (zQ [5, 11, 12] [(30, 3, 8), (30, 14, 16), (32, 65, 67), (32, 128, 271)] [5, 46, 48] [(38, 3, 6)]) σ0 y0 → zr 0 9 y2 → zpc (k41 y0 y1 y2) (fun r => (zQ [5, 11, 12] [(30, 3, 8), (30, 14, 16), (32, 65, 67), (32, 128, 271)] [5, 46, 48] [(38, 3, 6)]) σ0 (r))) {σ : zSt} {x2 : Int32} {s0 : Int32} {s1 : Int32} (h : (zQ [5, 11, 12] [(30, 3, 8), (30, 14, 16), (32, 65, 67), (32, 128, 271)] [5, 46, 48] [(38, 3, 6)]) σ0 σ) (qx2 : zr 0 8 x2) : zpc (fX10_makeNext_135 k41 σ x2 s0 s1) (fun r => (zQ [5, 11, 12] [(30, 3, 8), (30, 14, 16), (32, 65, 67), (32, 128, 271)] [5, 46, 48] [(38, 3, 6)]) σ0 (r)) := by
  unfold fX10_makeNext_135
  exact fq_fX10_makeNext_136 hk41 h qx2
theorem fq_fX10_makeNext_101 {σ0 : zSt} {k41 : zSt → Int32 → Int32 → Option (zSt)} (hk41 : ∀ (y0 : zSt) (y1 : Int32) (y2 : Int32), (zQ [5, 11, 12] [(30, 3, 8), (30, 14, 16), (32, 65, 67), (32, 128, 271)] [5, 46, 48] [(38, 3, 6)]) σ0 y0 → zr 0 9 y2 → zpc (k41 y0 y1 y2) (fun r => (zQ [5, 11, 12] [(30, 3, 8), (30, 14, 16), (32, 65, 67), (32, 128, 271)] [5, 46, 48] [(38, 3, 6)]) σ0 (r))) {σ : zSt} {x1 : Int32} {x2 : Int32} {x3 : Int32} {s0 : Int32} (h : (zQ [5, 11, 12] [(30, 3, 8), (30, 14, 16), (32, 65, 67), (32, 128, 271)] [5, 46, 48] [(38, 3, 6)]) σ0 σ) (qx2 : zr 0 8 x2) : zpc (fX10_makeNext_101 k41 σ x1 x2 x3 s0) (fun r => (zQ [5, 11, 12] [(30, 3, 8), (30, 14, 16), (32, 65, 67), (32, 128, 271)] [5, 46, 48] [(38, 3, 6)]) σ0 (r)) := by
  unfold fX10_makeNext_101
  exact zpc_ck (zpc_if (fun _ => fq_fX10_makeNext_135 hk41 h qx2) (fun _ => zpc_if (fun _ => fq_fX10_makeNext_135 hk41 h qx2) (fun _ => fq_fX10_makeNext_136 hk41 h qx2)))
theorem fq_fX10_makeNext_100 {σ0 : zSt} {k41 : zSt → Int32 → Int32 → Option (zSt)} (hk41 : ∀ (y0 : zSt) (y1 : Int32) (y2 : Int32), (zQ [5, 11, 12] [(30, 3, 8), (30, 14, 16), (32, 65, 67), (32, 128, 271)] [5, 46, 48] [(38, 3, 6)]) σ0 y0 → zr 0 9 y2 → zpc (k41 y0 y1 y2) (fun r => (zQ [5, 11, 12] [(30, 3, 8), (30, 14, 16), (32, 65, 67), (32, 128, 271)] [5, 46, 48] [(38, 3, 6)]) σ0 (r))) {σ : zSt} {x1 : Int32} {x2 : Int32} {x3 : Int32} (h : (zQ [5, 11, 12] [(30, 3, 8), (30, 14, 16), (32, 65, 67), (32, 128, 271)] [5, 46, 48] [(38, 3, 6)]) σ0 σ) (qx2 : zr 0 8 x2) : zpc (fX10_makeNext_100 k41 σ x1 x2 x3) (fun r => (zQ [5, 11, 12] [(30, 3, 8), (30, 14, 16), (32, 65, 67), (32, 128, 271)] [5, 46, 48] [(38, 3, 6)]) σ0 (r)) := by
  unfold fX10_makeNext_100
  exact fq_fX10_makeNext_101 hk41 h qx2
theorem fq_fX10_makeNext_174 {σ0 : zSt} {σ : zSt} {x1 : Int32} {s0 : Int32} {s1 : Int32} (h : (zQ [5, 11, 12] [(30, 3, 8), (30, 14, 16), (32, 65, 67), (32, 128, 271)] [5, 46, 48] [(38, 3, 6)]) σ0 σ) (qs1 : zr 65 65 s1) : zpc (fX10_makeNext_174 σ x1 s0 s1) (fun r => (zQ [5, 11, 12] [(30, 3, 8), (30, 14, 16), (32, 65, 67), (32, 128, 271)] [5, 46, 48] [(38, 3, 6)]) σ0 (r)) := by
  unfold fX10_makeNext_174
  exact zpc_ck (zpc_bs (zQ.wr (a := 65) (b := 67) (lo := 65) (hi := 65) h qs1 rfl (by decide)) (fun σ3 hσ3 => zpc_ck (zpc_bs (zQ.wi hσ3 rfl) (fun σ4 hσ4 => zpc_some hσ4))))
theorem fq_fX10_makeNext_41_body {σ0 : zSt} {k41 : zSt → Int32 → Int32 → Option (zSt)} (hk41 : ∀ (y0 : zSt) (y1 : Int32) (y2 : Int32), (zQ [5, 11, 12] [(30, 3, 8), (30, 14, 16), (32, 65, 67), (32, 128, 271)] [5, 46, 48] [(38, 3, 6)]) σ0 y0 → zr 0 9 y2 → zpc (k41 y0 y1 y2) (fun r => (zQ [5, 11, 12] [(30, 3, 8), (30, 14, 16), (32, 65, 67), (32, 128, 271)] [5, 46, 48] [(38, 3, 6)]) σ0 (r))) {σ : zSt} {x1 : Int32} {x2 : Int32} (h : (zQ [5, 11, 12] [(30, 3, 8), (30, 14, 16), (32, 65, 67), (32, 128, 271)] [5, 46, 48] [(38, 3, 6)]) σ0 σ) (qx2 : zr 0 9 x2) : zpc (fX10_makeNext_41_body k41 σ x1 x2) (fun r => (zQ [5, 11, 12] [(30, 3, 8), (30, 14, 16), (32, 65, 67), (32, 128, 271)] [5, 46, 48] [(38, 3, 6)]) σ0 (r)) := by
  unfold fX10_makeNext_41_body
  exact zpc_if (fun g2 => zpc_ck (zpc_bv (fun v5 _ => zpc_if (fun _ => fq_fX10_makeNext_174 h (zr_c (x := 65) (lo := 65) (hi := 65) (by decide))) (fun _ => fq_fX10_makeNext_174 h (zr_c (x := 65) (lo := 65) (hi := 65) (by decide)))))) (fun g2 => zpc_bu (fq_fX10_takeChannel h) (fun σ6 hσ6 => zpc_bv (fun v7 ev7 => zpc_bu (fq_fX10_moveOperator hσ6 (zr_w (show zr 128 256 v7 by rw [ev7]; exact (zr_add (lo := 128) (hi := 256) (zr_c (x := 128) (lo := 128) (hi := 128) (by decide)) (zr_mul (lo := 0) (hi := 128) (zr_c (x := 16) (lo := 16) (hi := 16) (by decide)) (zr_nge (k := 9) (m := 8) qx2 rfl g2 (by decide)) (by decide)) (by decide))) (by decide))) (fun σ8 hσ8 => zpc_bu (fq_fX10_moveOperator hσ8 (zr_w (zr_add (lo := 136) (hi := 264) (show zr 128 256 v7 by rw [ev7]; exact (zr_add (lo := 128) (hi := 256) (zr_c (x := 128) (lo := 128) (hi := 128) (by decide)) (zr_mul (lo := 0) (hi := 128) (zr_c (x := 16) (lo := 16) (hi := 16) (by decide)) (zr_nge (k := 9) (m := 8) qx2 rfl g2 (by decide)) (by decide)) (by decide))) (zr_c (x := 8) (lo := 8) (hi := 8) (by decide)) (by decide)) (by decide))) (fun σ9 hσ9 => zpc_if (fun _ => fq_fX10_makeNext_100 hk41 hσ9 (zr_nge (k := 9) (m := 8) qx2 rfl g2 (by decide))) (fun _ => zpc_if (fun _ => fq_fX10_makeNext_100 hk41 hσ9 (zr_nge (k := 9) (m := 8) qx2 rfl g2 (by decide))) (fun _ => zpc_ck (fq_fX10_makeNext_101 hk41 hσ9 (zr_nge (k := 9) (m := 8) qx2 rfl g2 (by decide))))))))))
theorem fq_fX10_makeNext_41 {σ0 : zSt} : ∀ (n : Nat) (y0 : zSt) (y1 : Int32) (y2 : Int32), (zQ [5, 11, 12] [(30, 3, 8), (30, 14, 16), (32, 65, 67), (32, 128, 271)] [5, 46, 48] [(38, 3, 6)]) σ0 y0 → zr 0 9 y2 → zpc (fX10_makeNext_41 n y0 y1 y2) (fun r => (zQ [5, 11, 12] [(30, 3, 8), (30, 14, 16), (32, 65, 67), (32, 128, 271)] [5, 46, 48] [(38, 3, 6)]) σ0 (r)) := by
  intro n
  induction n with
  | zero => intro y0 y1 y2 h q2; exact zpc_none
  | succ n ih => intro y0 y1 y2 h q2; exact fq_fX10_makeNext_41_body ih h q2
theorem fq_fX10_makeNext_30 {σ0 : zSt} {σ : zSt} {s0 : Int32} (h : (zQ [5, 11, 12] [(30, 3, 8), (30, 14, 16), (32, 65, 67), (32, 128, 271)] [5, 46, 48] [(38, 3, 6)]) σ0 σ) : zpc (fX10_makeNext_30 σ s0) (fun r => (zQ [5, 11, 12] [(30, 3, 8), (30, 14, 16), (32, 65, 67), (32, 128, 271)] [5, 46, 48] [(38, 3, 6)]) σ0 (r)) := by
  unfold fX10_makeNext_30
  exact zpc_ck (zpc_bs (zQ.wi h rfl) (fun σ10 hσ10 => zpc_bu (fq_fX10_takeOwnPatch hσ10) (fun σ11 hσ11 => fq_fX10_makeNext_41 _ _ _ _ hσ11 (zr_w (zr_c (x := 0) (lo := 0) (hi := 0) (by decide)) (by decide)))))
theorem fq_fX10_makeNext {σ0 : zSt} {σ : zSt} (h : (zQ [5, 11, 12] [(30, 3, 8), (30, 14, 16), (32, 65, 67), (32, 128, 271)] [5, 46, 48] [(38, 3, 6)]) σ0 σ) : zpc (fX10_makeNext σ) (fun r => (zQ [5, 11, 12] [(30, 3, 8), (30, 14, 16), (32, 65, 67), (32, 128, 271)] [5, 46, 48] [(38, 3, 6)]) σ0 (r)) := by
  unfold fX10_makeNext
  exact zpc_ck (zpc_ck (zpc_bs (zQ.wi h rfl) (fun σ12 hσ12 => zpc_ck (zpc_if (fun _ => fq_fX10_makeNext_30 hσ12) (fun _ => fq_fX10_makeNext_30 hσ12)))))
theorem fq_fX10_heard_24 {σ0 : zSt} {σ : zSt} {s0 : Int32} (h : (zQ [5, 11, 12] [(30, 3, 8), (30, 14, 16), (32, 65, 67), (32, 128, 271)] [5, 46, 48] [(38, 3, 6)]) σ0 σ) : zpc (fX10_heard_24 σ s0) (fun r => (zQ [5, 11, 12] [(30, 3, 8), (30, 14, 16), (32, 65, 67), (32, 128, 271)] [5, 46, 48] [(38, 3, 6)]) σ0 (r.1)) := by
  unfold fX10_heard_24
  exact zpc_some h
theorem fq_fX10_heard {σ0 : zSt} {σ : zSt} (h : (zQ [5, 11, 12] [(30, 3, 8), (30, 14, 16), (32, 65, 67), (32, 128, 271)] [5, 46, 48] [(38, 3, 6)]) σ0 σ) : zpc (fX10_heard σ) (fun r => (zQ [5, 11, 12] [(30, 3, 8), (30, 14, 16), (32, 65, 67), (32, 128, 271)] [5, 46, 48] [(38, 3, 6)]) σ0 (r.1)) := by
  unfold fX10_heard
  exact zpc_ck (zpc_if (fun _ => zpc_ck (fq_fX10_heard_24 h)) (fun _ => fq_fX10_heard_24 h))
theorem fq_fX6_add_k12_56 {σ0 : zSt} {σ : zSt} (h : (zQ [5, 11, 12] [(30, 3, 8), (30, 14, 16), (32, 65, 67), (32, 128, 271)] [5, 46, 48] [(38, 3, 6)]) σ0 σ) : zpc (fX6_add_k12_56 σ) (fun r => (zQ [5, 11, 12] [(30, 3, 8), (30, 14, 16), (32, 65, 67), (32, 128, 271)] [5, 46, 48] [(38, 3, 6)]) σ0 (r)) := by
  unfold fX6_add_k12_56
  exact zpc_some h
theorem fq_fX6_add_k12 {σ0 : zSt} {σ : zSt} {x1 : Int64} (h : (zQ [5, 11, 12] [(30, 3, 8), (30, 14, 16), (32, 65, 67), (32, 128, 271)] [5, 46, 48] [(38, 3, 6)]) σ0 σ) : zpc (fX6_add_k12 σ x1) (fun r => (zQ [5, 11, 12] [(30, 3, 8), (30, 14, 16), (32, 65, 67), (32, 128, 271)] [5, 46, 48] [(38, 3, 6)]) σ0 (r)) := by
  unfold fX6_add_k12
  exact zpc_ck (zpc_bs (zQ.wl h rfl) (fun σ1 hσ1 => zpc_if (fun _ => zpc_bs (zQ.wi hσ1 rfl) (fun σ2 hσ2 => fq_fX6_add_k12_56 hσ2)) (fun _ => zpc_bs (zQ.wi hσ1 rfl) (fun σ3 hσ3 => fq_fX6_add_k12_56 hσ3))))
theorem fq_fX0_addMix {σ0 : zSt} {σ : zSt} (h : (zQ [5, 11, 12] [(30, 3, 8), (30, 14, 16), (32, 65, 67), (32, 128, 271)] [5, 46, 48] [(38, 3, 6)]) σ0 σ) : zpc (fX0_addMix σ) (fun r => (zQ [5, 11, 12] [(30, 3, 8), (30, 14, 16), (32, 65, 67), (32, 128, 271)] [5, 46, 48] [(38, 3, 6)]) σ0 (r)) := by
  unfold fX0_addMix
  exact zpc_ck (zpc_bv (fun v1 _ => zpc_ck (zpc_ck (zpc_bi (fq_fX10_heard h) (fun σ2 v3 hσ2 => zpc_bv (fun v4 _ => zpc_ck (zpc_ck (zpc_bi (fq_fX10_heard hσ2) (fun σ5 v6 hσ5 => zpc_bv (fun v7 _ => zpc_bu (fq_fX6_add_k12 hσ5) (fun σ8 hσ8 => zpc_ck (zpc_bs (zQ.wl hσ8 rfl) (fun σ9 hσ9 => zpc_ck (zpc_bs (zQ.wl hσ9 rfl) (fun σ10 hσ10 => zpc_ck (zpc_bs (zQ.wl hσ10 rfl) (fun σ11 hσ11 => zpc_some hσ11)))))))))))))))))
theorem fq_fX0_pass_105_body {σ0 : zSt} {k105 : zSt → Int64 → Int64 → Option (zSt)} (hk105 : ∀ (y0 : zSt) (y1 : Int64) (y2 : Int64), (zQ [5, 11, 12] [(30, 3, 8), (30, 14, 16), (32, 65, 67), (32, 128, 271)] [5, 46, 48] [(38, 3, 6)]) σ0 y0 → zpc (k105 y0 y1 y2) (fun r => (zQ [5, 11, 12] [(30, 3, 8), (30, 14, 16), (32, 65, 67), (32, 128, 271)] [5, 46, 48] [(38, 3, 6)]) σ0 (r))) {σ : zSt} {x4 : Int64} {x6 : Int64} (h : (zQ [5, 11, 12] [(30, 3, 8), (30, 14, 16), (32, 65, 67), (32, 128, 271)] [5, 46, 48] [(38, 3, 6)]) σ0 σ) : zpc (fX0_pass_105_body k105 σ x4 x6) (fun r => (zQ [5, 11, 12] [(30, 3, 8), (30, 14, 16), (32, 65, 67), (32, 128, 271)] [5, 46, 48] [(38, 3, 6)]) σ0 (r)) := by
  unfold fX0_pass_105_body
  exact zpc_ck (zpc_if (fun _ => zpc_some h) (fun _ => zpc_bu (fq_fX0_addMix h) (fun σ1 hσ1 => zpc_bv (fun v2 _ => hk105 _ _ _ hσ1))))
theorem fq_fX0_pass_105 {σ0 : zSt} : ∀ (n : Nat) (y0 : zSt) (y1 : Int64) (y2 : Int64), (zQ [5, 11, 12] [(30, 3, 8), (30, 14, 16), (32, 65, 67), (32, 128, 271)] [5, 46, 48] [(38, 3, 6)]) σ0 y0 → zpc (fX0_pass_105 n y0 y1 y2) (fun r => (zQ [5, 11, 12] [(30, 3, 8), (30, 14, 16), (32, 65, 67), (32, 128, 271)] [5, 46, 48] [(38, 3, 6)]) σ0 (r)) := by
  intro n
  induction n with
  | zero => intro y0 y1 y2 h; exact zpc_none
  | succ n ih => intro y0 y1 y2 h; exact fq_fX0_pass_105_body ih h
theorem fq_fX0_pass_70_body {σ0 : zSt} {k70 : zSt → Int64 → Int64 → Int64 → Option (zSt)} (hk70 : ∀ (y0 : zSt) (y1 : Int64) (y2 : Int64) (y3 : Int64), (zQ [5, 11, 12] [(30, 3, 8), (30, 14, 16), (32, 65, 67), (32, 128, 271)] [5, 46, 48] [(38, 3, 6)]) σ0 y0 → zpc (k70 y0 y1 y2 y3) (fun r => (zQ [5, 11, 12] [(30, 3, 8), (30, 14, 16), (32, 65, 67), (32, 128, 271)] [5, 46, 48] [(38, 3, 6)]) σ0 (r))) {σ : zSt} {x2 : Int64} {x4 : Int64} {x6 : Int64} (h : (zQ [5, 11, 12] [(30, 3, 8), (30, 14, 16), (32, 65, 67), (32, 128, 271)] [5, 46, 48] [(38, 3, 6)]) σ0 σ) : zpc (fX0_pass_70_body k70 σ x2 x4 x6) (fun r => (zQ [5, 11, 12] [(30, 3, 8), (30, 14, 16), (32, 65, 67), (32, 128, 271)] [5, 46, 48] [(38, 3, 6)]) σ0 (r)) := by
  unfold fX0_pass_70_body
  exact zpc_ck (zpc_if (fun _ => zpc_ck (zpc_bv (fun v3 _ => fq_fX0_pass_105 _ _ _ _ h))) (fun _ => zpc_bu (fq_fX10_makeNext h) (fun σ4 hσ4 => zpc_bv (fun v5 _ => hk70 _ _ _ _ hσ4))))
theorem fq_fX0_pass_70 {σ0 : zSt} : ∀ (n : Nat) (y0 : zSt) (y1 : Int64) (y2 : Int64) (y3 : Int64), (zQ [5, 11, 12] [(30, 3, 8), (30, 14, 16), (32, 65, 67), (32, 128, 271)] [5, 46, 48] [(38, 3, 6)]) σ0 y0 → zpc (fX0_pass_70 n y0 y1 y2 y3) (fun r => (zQ [5, 11, 12] [(30, 3, 8), (30, 14, 16), (32, 65, 67), (32, 128, 271)] [5, 46, 48] [(38, 3, 6)]) σ0 (r)) := by
  intro n
  induction n with
  | zero => intro y0 y1 y2 y3 h; exact zpc_none
  | succ n ih => intro y0 y1 y2 y3 h; exact fq_fX0_pass_70_body ih h
theorem fq_fX0_pass_38_body {σ0 : zSt} {k38 : zSt → Int64 → Int64 → Int64 → Option (zSt)} (hk38 : ∀ (y0 : zSt) (y1 : Int64) (y2 : Int64) (y3 : Int64), (zQ [5, 11, 12] [(30, 3, 8), (30, 14, 16), (32, 65, 67), (32, 128, 271)] [5, 46, 48] [(38, 3, 6)]) σ0 y0 → zpc (k38 y0 y1 y2 y3) (fun r => (zQ [5, 11, 12] [(30, 3, 8), (30, 14, 16), (32, 65, 67), (32, 128, 271)] [5, 46, 48] [(38, 3, 6)]) σ0 (r))) {σ : zSt} {x2 : Int64} {x4 : Int64} {x6 : Int64} (h : (zQ [5, 11, 12] [(30, 3, 8), (30, 14, 16), (32, 65, 67), (32, 128, 271)] [5, 46, 48] [(38, 3, 6)]) σ0 σ) : zpc (fX0_pass_38_body k38 σ x2 x4 x6) (fun r => (zQ [5, 11, 12] [(30, 3, 8), (30, 14, 16), (32, 65, 67), (32, 128, 271)] [5, 46, 48] [(38, 3, 6)]) σ0 (r)) := by
  unfold fX0_pass_38_body
  exact zpc_ck (zpc_if (fun _ => zpc_ck (zpc_bv (fun v6 _ => fq_fX0_pass_70 _ _ _ _ _ h))) (fun _ => zpc_bu (fq_fX0_addSample h) (fun σ7 hσ7 => zpc_bv (fun v8 _ => hk38 _ _ _ _ hσ7))))
theorem fq_fX0_pass_38 {σ0 : zSt} : ∀ (n : Nat) (y0 : zSt) (y1 : Int64) (y2 : Int64) (y3 : Int64), (zQ [5, 11, 12] [(30, 3, 8), (30, 14, 16), (32, 65, 67), (32, 128, 271)] [5, 46, 48] [(38, 3, 6)]) σ0 y0 → zpc (fX0_pass_38 n y0 y1 y2 y3) (fun r => (zQ [5, 11, 12] [(30, 3, 8), (30, 14, 16), (32, 65, 67), (32, 128, 271)] [5, 46, 48] [(38, 3, 6)]) σ0 (r)) := by
  intro n
  induction n with
  | zero => intro y0 y1 y2 y3 h; exact zpc_none
  | succ n ih => intro y0 y1 y2 y3 h; exact fq_fX0_pass_38_body ih h
theorem fw_fX12_loudness {σ0 : zSt} {σ : zSt} {x0 : Int32} (h : (zQ [] [(3, 72, 77), (3, 83, 85), (3, 87, 88), (3, 164, 170), (3, 172, 279)] [10, 11] [(4, 3, 4)]) σ0 σ) : zpc (fX12_loudness σ x0) (fun r => (zQ [] [(3, 72, 77), (3, 83, 85), (3, 87, 88), (3, 164, 170), (3, 172, 279)] [10, 11] [(4, 3, 4)]) σ0 (r.1)) := by
  unfold fX12_loudness
  exact zpc_if (fun _ => zpc_some h) (fun _ => zpc_if (fun _ => zpc_some h) (fun _ => zpc_if (fun _ => zpc_some h) (fun _ => zpc_if (fun _ => zpc_some h) (fun _ => zpc_if (fun _ => zpc_some h) (fun _ => zpc_if (fun _ => zpc_some h) (fun _ => zpc_if (fun _ => zpc_some h) (fun _ => zpc_if (fun _ => zpc_some h) (fun _ => zpc_if (fun _ => zpc_some h) (fun _ => zpc_if (fun _ => zpc_some h) (fun _ => zpc_if (fun _ => zpc_some h) (fun _ => zpc_if (fun _ => zpc_some h) (fun _ => zpc_if (fun _ => zpc_some h) (fun _ => zpc_if (fun _ => zpc_some h) (fun _ => zpc_if (fun _ => zpc_some h) (fun _ => zpc_some h)))))))))))))))
theorem fw_fX12_sample_102 {σ0 : zSt} {k2 : zSt → Int32 → Option (zSt)} (hk2 : ∀ (y0 : zSt) (y1 : Int32), (zQ [] [(3, 72, 77), (3, 83, 85), (3, 87, 88), (3, 164, 170), (3, 172, 279)] [10, 11] [(4, 3, 4)]) σ0 y0 → zr 0 3 y1 → zpc (k2 y0 y1) (fun r => (zQ [] [(3, 72, 77), (3, 83, 85), (3, 87, 88), (3, 164, 170), (3, 172, 279)] [10, 11] [(4, 3, 4)]) σ0 (r))) {σ : zSt} {x1 : Int32} (h : (zQ [] [(3, 72, 77), (3, 83, 85), (3, 87, 88), (3, 164, 170), (3, 172, 279)] [10, 11] [(4, 3, 4)]) σ0 σ) (qx1 : zr 0 2 x1) : zpc (fX12_sample_102 k2 σ x1) (fun r => (zQ [] [(3, 72, 77), (3, 83, 85), (3, 87, 88), (3, 164, 170), (3, 172, 279)] [10, 11] [(4, 3, 4)]) σ0 (r)) := by
  unfold fX12_sample_102
  exact zpc_bv (fun v1 ev1 => hk2 _ _ h (zr_w (show zr 1 3 v1 by rw [ev1]; exact (zr_add (lo := 1) (hi := 3) qx1 (zr_c (x := 1) (lo := 1) (hi := 1) (by decide)) (by decide))) (by decide)))
theorem fw_fX12_sample_101 {σ0 : zSt} {k2 : zSt → Int32 → Option (zSt)} (hk2 : ∀ (y0 : zSt) (y1 : Int32), (zQ [] [(3, 72, 77), (3, 83, 85), (3, 87, 88), (3, 164, 170), (3, 172, 279)] [10, 11] [(4, 3, 4)]) σ0 y0 → zr 0 3 y1 → zpc (k2 y0 y1) (fun r => (zQ [] [(3, 72, 77), (3, 83, 85), (3, 87, 88), (3, 164, 170), (3, 172, 279)] [10, 11] [(4, 3, 4)]) σ0 (r))) {σ : zSt} {x1 : Int32} {s0 : Int32} {s1 : Int32} (h : (zQ [] [(3, 72, 77), (3, 83, 85), (3, 87, 88), (3, 164, 170), (3, 172, 279)] [10, 11] [(4, 3, 4)]) σ0 σ) (qx1 : zr 0 2 x1) (qs1 : zr 75 77 s1) : zpc (fX12_sample_101 k2 σ x1 s0 s1) (fun r => (zQ [] [(3, 72, 77), (3, 83, 85), (3, 87, 88), (3, 164, 170), (3, 172, 279)] [10, 11] [(4, 3, 4)]) σ0 (r)) := by
  unfold fX12_sample_101
  exact zpc_ck (zpc_bs (zQ.wr (a := 72) (b := 77) (lo := 75) (hi := 77) h qs1 rfl (by decide)) (fun σ2 hσ2 => fw_fX12_sample_102 hk2 hσ2 qx1))
theorem fw_fX12_sample_32 {σ0 : zSt} {k2 : zSt → Int32 → Option (zSt)} (hk2 : ∀ (y0 : zSt) (y1 : Int32), (zQ [] [(3, 72, 77), (3, 83, 85), (3, 87, 88), (3, 164, 170), (3, 172, 279)] [10, 11] [(4, 3, 4)]) σ0 y0 → zr 0 3 y1 → zpc (k2 y0 y1) (fun r => (zQ [] [(3, 72, 77), (3, 83, 85), (3, 87, 88), (3, 164, 170), (3, 172, 279)] [10, 11] [(4, 3, 4)]) σ0 (r))) {σ : zSt} {x1 : Int32} (h : (zQ [] [(3, 72, 77), (3, 83, 85), (3, 87, 88), (3, 164, 170), (3, 172, 279)] [10, 11] [(4, 3, 4)]) σ0 σ) (qx1 : zr 0 2 x1) : zpc (fX12_sample_32 k2 σ x1) (fun r => (zQ [] [(3, 72, 77), (3, 83, 85), (3, 87, 88), (3, 164, 170), (3, 172, 279)] [10, 11] [(4, 3, 4)]) σ0 (r)) := by
  unfold fX12_sample_32
  exact zpc_ck (zpc_if (fun _ => zpc_ck (zpc_ck (zpc_bs (zQ.wr (a := 72) (b := 77) (lo := 72) (hi := 74) h (zr_add (lo := 72) (hi := 74) (zr_c (x := 72) (lo := 72) (hi := 72) (by decide)) qx1 (by decide)) rfl (by decide)) (fun σ3 hσ3 => zpc_ck (zpc_if (fun _ => zpc_ck (fw_fX12_sample_101 hk2 hσ3 qx1 (zr_add (lo := 75) (hi := 77) (zr_c (x := 75) (lo := 75) (hi := 75) (by decide)) qx1 (by decide)))) (fun _ => fw_fX12_sample_101 hk2 hσ3 qx1 (zr_add (lo := 75) (hi := 77) (zr_c (x := 75) (lo := 75) (hi := 75) (by decide)) qx1 (by decide)))))))) (fun _ => fw_fX12_sample_102 hk2 h qx1))
theorem fw_fX12_sample_407 {σ0 : zSt} {k275 : zSt → Int64 → Int64 → Int32 → Option (zSt)} (hk275 : ∀ (y0 : zSt) (y1 : Int64) (y2 : Int64) (y3 : Int32), (zQ [] [(3, 72, 77), (3, 83, 85), (3, 87, 88), (3, 164, 170), (3, 172, 279)] [10, 11] [(4, 3, 4)]) σ0 y0 → zpc (k275 y0 y1 y2 y3) (fun r => (zQ [] [(3, 72, 77), (3, 83, 85), (3, 87, 88), (3, 164, 170), (3, 172, 279)] [10, 11] [(4, 3, 4)]) σ0 (r))) {σ : zSt} {x1 : Int64} {x3 : Int64} {x5 : Int32} (h : (zQ [] [(3, 72, 77), (3, 83, 85), (3, 87, 88), (3, 164, 170), (3, 172, 279)] [10, 11] [(4, 3, 4)]) σ0 σ) : zpc (fX12_sample_407 k275 σ x1 x3 x5) (fun r => (zQ [] [(3, 72, 77), (3, 83, 85), (3, 87, 88), (3, 164, 170), (3, 172, 279)] [10, 11] [(4, 3, 4)]) σ0 (r)) := by
  unfold fX12_sample_407
  exact zpc_bv (fun v4 _ => hk275 _ _ _ _ h)
theorem fw_fX12_sample_369 {σ0 : zSt} {k275 : zSt → Int64 → Int64 → Int32 → Option (zSt)} (hk275 : ∀ (y0 : zSt) (y1 : Int64) (y2 : Int64) (y3 : Int32), (zQ [] [(3, 72, 77), (3, 83, 85), (3, 87, 88), (3, 164, 170), (3, 172, 279)] [10, 11] [(4, 3, 4)]) σ0 y0 → zpc (k275 y0 y1 y2 y3) (fun r => (zQ [] [(3, 72, 77), (3, 83, 85), (3, 87, 88), (3, 164, 170), (3, 172, 279)] [10, 11] [(4, 3, 4)]) σ0 (r))) {σ : zSt} {x1 : Int64} {x3 : Int64} {x5 : Int32} {x6 : Int32} (h : (zQ [] [(3, 72, 77), (3, 83, 85), (3, 87, 88), (3, 164, 170), (3, 172, 279)] [10, 11] [(4, 3, 4)]) σ0 σ) : zpc (fX12_sample_369 k275 σ x1 x3 x5 x6) (fun r => (zQ [] [(3, 72, 77), (3, 83, 85), (3, 87, 88), (3, 164, 170), (3, 172, 279)] [10, 11] [(4, 3, 4)]) σ0 (r)) := by
  unfold fX12_sample_369
  exact zpc_if (fun _ => fw_fX12_sample_407 hk275 h) (fun _ => zpc_ck (zpc_if (fun _ => zpc_ck (zpc_bi (fw_fX12_loudness h) (fun σ5 v6 hσ5 => zpc_bv (fun v7 _ => fw_fX12_sample_407 hk275 hσ5)))) (fun _ => fw_fX12_sample_407 hk275 h)))
theorem fw_fX12_sample_327 {σ0 : zSt} {k275 : zSt → Int64 → Int64 → Int32 → Option (zSt)} (hk275 : ∀ (y0 : zSt) (y1 : Int64) (y2 : Int64) (y3 : Int32), (zQ [] [(3, 72, 77), (3, 83, 85), (3, 87, 88), (3, 164, 170), (3, 172, 279)] [10, 11] [(4, 3, 4)]) σ0 y0 → zpc (k275 y0 y1 y2 y3) (fun r => (zQ [] [(3, 72, 77), (3, 83, 85), (3, 87, 88), (3, 164, 170), (3, 172, 279)] [10, 11] [(4, 3, 4)]) σ0 (r))) {σ : zSt} {x1 : Int64} {x3 : Int64} {x5 : Int32} {s0 : Int32} (h : (zQ [] [(3, 72, 77), (3, 83, 85), (3, 87, 88), (3, 164, 170), (3, 172, 279)] [10, 11] [(4, 3, 4)]) σ0 σ) : zpc (fX12_sample_327 k275 σ x1 x3 x5 s0) (fun r => (zQ [] [(3, 72, 77), (3, 83, 85), (3, 87, 88), (3, 164, 170), (3, 172, 279)] [10, 11] [(4, 3, 4)]) σ0 (r)) := by
  unfold fX12_sample_327
  exact zpc_if (fun _ => fw_fX12_sample_369 hk275 h) (fun _ => zpc_ck (zpc_if (fun _ => zpc_ck (zpc_bi (fw_fX12_loudness h) (fun σ8 v9 hσ8 => zpc_bv (fun v10 _ => fw_fX12_sample_369 hk275 hσ8)))) (fun _ => fw_fX12_sample_369 hk275 h)))
theorem fw_fX12_sample_508 {σ0 : zSt} {σ : zSt} {x1 : Int64} {x3 : Int64} (h : (zQ [] [(3, 72, 77), (3, 83, 85), (3, 87, 88), (3, 164, 170), (3, 172, 279)] [10, 11] [(4, 3, 4)]) σ0 σ) : zpc (fX12_sample_508 σ x1 x3) (fun r => (zQ [] [(3, 72, 77), (3, 83, 85), (3, 87, 88), (3, 164, 170), (3, 172, 279)] [10, 11] [(4, 3, 4)]) σ0 (r)) := by
  unfold fX12_sample_508
  exact zpc_ck (zpc_ck (zpc_ck (zpc_ck (zpc_bs (zQ.wl h rfl) (fun σ11 hσ11 => zpc_some hσ11)))))
theorem fw_fX12_sample_275_body {σ0 : zSt} {k275 : zSt → Int64 → Int64 → Int32 → Option (zSt)} (hk275 : ∀ (y0 : zSt) (y1 : Int64) (y2 : Int64) (y3 : Int32), (zQ [] [(3, 72, 77), (3, 83, 85), (3, 87, 88), (3, 164, 170), (3, 172, 279)] [10, 11] [(4, 3, 4)]) σ0 y0 → zpc (k275 y0 y1 y2 y3) (fun r => (zQ [] [(3, 72, 77), (3, 83, 85), (3, 87, 88), (3, 164, 170), (3, 172, 279)] [10, 11] [(4, 3, 4)]) σ0 (r))) {σ : zSt} {x1 : Int64} {x3 : Int64} {x5 : Int32} (h : (zQ [] [(3, 72, 77), (3, 83, 85), (3, 87, 88), (3, 164, 170), (3, 172, 279)] [10, 11] [(4, 3, 4)]) σ0 σ) : zpc (fX12_sample_275_body k275 σ x1 x3 x5) (fun r => (zQ [] [(3, 72, 77), (3, 83, 85), (3, 87, 88), (3, 164, 170), (3, 172, 279)] [10, 11] [(4, 3, 4)]) σ0 (r)) := by
  unfold fX12_sample_275_body
  exact zpc_if (fun _ => zpc_ck (zpc_ck (zpc_bs (zQ.wl h rfl) (fun σ12 hσ12 => zpc_ck (zpc_ck (zpc_bs (zQ.wi hσ12 rfl) (fun σ13 hσ13 => zpc_ck (zpc_ck (zpc_bs (zQ.wi hσ13 rfl) (fun σ14 hσ14 => zpc_ck (zpc_ck (zpc_bs (zQ.wi hσ14 rfl) (fun σ15 hσ15 => zpc_ck (zpc_if (fun _ => zpc_ck (zpc_ck (zpc_ck (zpc_bs (zQ.wi hσ15 rfl) (fun σ17 hσ17 => fw_fX12_sample_508 hσ17))))) (fun _ => zpc_ck (zpc_ck (zpc_bs (zQ.wi hσ15 rfl) (fun σ16 hσ16 => fw_fX12_sample_508 hσ16)))))))))))))))))) (fun _ => zpc_if (fun _ => zpc_ck (zpc_if (fun _ => fw_fX12_sample_327 hk275 h) (fun _ => fw_fX12_sample_327 hk275 h))) (fun _ => zpc_ck (zpc_if (fun _ => fw_fX12_sample_327 hk275 h) (fun _ => fw_fX12_sample_327 hk275 h))))
theorem fw_fX12_sample_275 {σ0 : zSt} : ∀ (n : Nat) (y0 : zSt) (y1 : Int64) (y2 : Int64) (y3 : Int32), (zQ [] [(3, 72, 77), (3, 83, 85), (3, 87, 88), (3, 164, 170), (3, 172, 279)] [10, 11] [(4, 3, 4)]) σ0 y0 → zpc (fX12_sample_275 n y0 y1 y2 y3) (fun r => (zQ [] [(3, 72, 77), (3, 83, 85), (3, 87, 88), (3, 164, 170), (3, 172, 279)] [10, 11] [(4, 3, 4)]) σ0 (r)) := by
  intro n
  induction n with
  | zero => intro y0 y1 y2 y3 h; exact zpc_none
  | succ n ih => intro y0 y1 y2 y3 h; exact fw_fX12_sample_275_body ih h
theorem fw_fX12_sample_268 {σ0 : zSt} {σ : zSt} (h : (zQ [] [(3, 72, 77), (3, 83, 85), (3, 87, 88), (3, 164, 170), (3, 172, 279)] [10, 11] [(4, 3, 4)]) σ0 σ) : zpc (fX12_sample_268 σ) (fun r => (zQ [] [(3, 72, 77), (3, 83, 85), (3, 87, 88), (3, 164, 170), (3, 172, 279)] [10, 11] [(4, 3, 4)]) σ0 (r)) := by
  unfold fX12_sample_268
  exact fw_fX12_sample_275 _ _ _ _ _ h
theorem fw_fX12_sample_246 {σ0 : zSt} {σ : zSt} {s0 : Int32} (h : (zQ [] [(3, 72, 77), (3, 83, 85), (3, 87, 88), (3, 164, 170), (3, 172, 279)] [10, 11] [(4, 3, 4)]) σ0 σ) : zpc (fX12_sample_246 σ s0) (fun r => (zQ [] [(3, 72, 77), (3, 83, 85), (3, 87, 88), (3, 164, 170), (3, 172, 279)] [10, 11] [(4, 3, 4)]) σ0 (r)) := by
  unfold fX12_sample_246
  exact zpc_ck (zpc_ck (zpc_bs (zQ.wi h rfl) (fun σ18 hσ18 => fw_fX12_sample_268 hσ18)))
theorem fw_fX12_sample_174 {σ0 : zSt} {σ : zSt} {s0 : Int32} {s1 : Int32} (h : (zQ [] [(3, 72, 77), (3, 83, 85), (3, 87, 88), (3, 164, 170), (3, 172, 279)] [10, 11] [(4, 3, 4)]) σ0 σ) (qs1 : zr 83 83 s1) : zpc (fX12_sample_174 σ s0 s1) (fun r => (zQ [] [(3, 72, 77), (3, 83, 85), (3, 87, 88), (3, 164, 170), (3, 172, 279)] [10, 11] [(4, 3, 4)]) σ0 (r)) := by
  unfold fX12_sample_174
  exact zpc_ck (zpc_bs (zQ.wr (a := 83) (b := 85) (lo := 83) (hi := 83) h qs1 rfl (by decide)) (fun σ19 hσ19 => zpc_ck (zpc_ck (zpc_bs (zQ.wi hσ19 rfl) (fun σ20 hσ20 => zpc_ck (zpc_if (fun _ => zpc_ck (zpc_if (fun _ => zpc_ck (zpc_ck (fw_fX12_sample_246 hσ20))) (fun _ => zpc_ck (fw_fX12_sample_246 hσ20)))) (fun _ => fw_fX12_sample_268 hσ20)))))))
theorem fw_fX12_sample_129 {σ0 : zSt} {σ : zSt} (h : (zQ [] [(3, 72, 77), (3, 83, 85), (3, 87, 88), (3, 164, 170), (3, 172, 279)] [10, 11] [(4, 3, 4)]) σ0 σ) : zpc (fX12_sample_129 σ) (fun r => (zQ [] [(3, 72, 77), (3, 83, 85), (3, 87, 88), (3, 164, 170), (3, 172, 279)] [10, 11] [(4, 3, 4)]) σ0 (r)) := by
  unfold fX12_sample_129
  exact zpc_ck (zpc_if (fun _ => zpc_ck (zpc_ck (zpc_bv (fun v21 _ => zpc_if (fun _ => zpc_ck (fw_fX12_sample_174 h (zr_c (x := 83) (lo := 83) (hi := 83) (by decide)))) (fun _ => fw_fX12_sample_174 h (zr_c (x := 83) (lo := 83) (hi := 83) (by decide))))))) (fun _ => fw_fX12_sample_268 h))
theorem fw_fX12_sample_2_body {σ0 : zSt} {k2 : zSt → Int32 → Option (zSt)} (hk2 : ∀ (y0 : zSt) (y1 : Int32), (zQ [] [(3, 72, 77), (3, 83, 85), (3, 87, 88), (3, 164, 170), (3, 172, 279)] [10, 11] [(4, 3, 4)]) σ0 y0 → zr 0 3 y1 → zpc (k2 y0 y1) (fun r => (zQ [] [(3, 72, 77), (3, 83, 85), (3, 87, 88), (3, 164, 170), (3, 172, 279)] [10, 11] [(4, 3, 4)]) σ0 (r))) {σ : zSt} {x1 : Int32} (h : (zQ [] [(3, 72, 77), (3, 83, 85), (3, 87, 88), (3, 164, 170), (3, 172, 279)] [10, 11] [(4, 3, 4)]) σ0 σ) (qx1 : zr 0 3 x1) : zpc (fX12_sample_2_body k2 σ x1) (fun r => (zQ [] [(3, 72, 77), (3, 83, 85), (3, 87, 88), (3, 164, 170), (3, 172, 279)] [10, 11] [(4, 3, 4)]) σ0 (r)) := by
  unfold fX12_sample_2_body
  exact zpc_if (fun g1 => zpc_ck (zpc_if (fun _ => fw_fX12_sample_129 h) (fun _ => zpc_ck (zpc_ck (zpc_bs (zQ.wi h rfl) (fun σ22 hσ22 => fw_fX12_sample_129 hσ22)))))) (fun g1 => zpc_ck (zpc_if (fun _ => fw_fX12_sample_32 hk2 h (zr_nge (k := 3) (m := 2) qx1 rfl g1 (by decide))) (fun _ => zpc_bv (fun v23 ev23 => zpc_ck (zpc_ck (zpc_bs (zQ.wr (a := 72) (b := 77) (lo := 72) (hi := 74) h (show zr 72 74 v23 by rw [ev23]; exact (zr_add (lo := 72) (hi := 74) (zr_c (x := 72) (lo := 72) (hi := 72) (by decide)) (zr_nge (k := 3) (m := 2) qx1 rfl g1 (by decide)) (by decide))) rfl (by decide)) (fun σ24 hσ24 => fw_fX12_sample_32 hk2 hσ24 (zr_nge (k := 3) (m := 2) qx1 rfl g1 (by decide)))))))))
theorem fw_fX12_sample_2 {σ0 : zSt} : ∀ (n : Nat) (y0 : zSt) (y1 : Int32), (zQ [] [(3, 72, 77), (3, 83, 85), (3, 87, 88), (3, 164, 170), (3, 172, 279)] [10, 11] [(4, 3, 4)]) σ0 y0 → zr 0 3 y1 → zpc (fX12_sample_2 n y0 y1) (fun r => (zQ [] [(3, 72, 77), (3, 83, 85), (3, 87, 88), (3, 164, 170), (3, 172, 279)] [10, 11] [(4, 3, 4)]) σ0 (r)) := by
  intro n
  induction n with
  | zero => intro y0 y1 h q1; exact zpc_none
  | succ n ih => intro y0 y1 h q1; exact fw_fX12_sample_2_body ih h q1
theorem fw_fX12_sample {σ0 : zSt} {σ : zSt} (h : (zQ [] [(3, 72, 77), (3, 83, 85), (3, 87, 88), (3, 164, 170), (3, 172, 279)] [10, 11] [(4, 3, 4)]) σ0 σ) : zpc (fX12_sample σ) (fun r => (zQ [] [(3, 72, 77), (3, 83, 85), (3, 87, 88), (3, 164, 170), (3, 172, 279)] [10, 11] [(4, 3, 4)]) σ0 (r)) := by
  unfold fX12_sample
  exact fw_fX12_sample_2 _ _ _ h (zr_w (zr_c (x := 0) (lo := 0) (hi := 0) (by decide)) (by decide))
theorem fw_fX12_wreg {σ0 : zSt} {σ : zSt} {x1 : Int32} (h : (zQ [] [(3, 72, 77), (3, 83, 85), (3, 87, 88), (3, 164, 170), (3, 172, 279)] [10, 11] [(4, 3, 4)]) σ0 σ) : zpc (fX12_wreg σ x1) (fun r => (zQ [] [(3, 72, 77), (3, 83, 85), (3, 87, 88), (3, 164, 170), (3, 172, 279)] [10, 11] [(4, 3, 4)]) σ0 (r.1)) := by
  unfold fX12_wreg
  exact zpc_ck (zpc_some h)
theorem fw_fX12_isRhythm_22 {σ0 : zSt} {σ : zSt} {s0 : Int32} (h : (zQ [] [(3, 72, 77), (3, 83, 85), (3, 87, 88), (3, 164, 170), (3, 172, 279)] [10, 11] [(4, 3, 4)]) σ0 σ) : zpc (fX12_isRhythm_22 σ s0) (fun r => (zQ [] [(3, 72, 77), (3, 83, 85), (3, 87, 88), (3, 164, 170), (3, 172, 279)] [10, 11] [(4, 3, 4)]) σ0 (r.1)) := by
  unfold fX12_isRhythm_22
  exact zpc_ck (zpc_some h)
theorem fw_fX12_isRhythm_21 {σ0 : zSt} {σ : zSt} (h : (zQ [] [(3, 72, 77), (3, 83, 85), (3, 87, 88), (3, 164, 170), (3, 172, 279)] [10, 11] [(4, 3, 4)]) σ0 σ) : zpc (fX12_isRhythm_21 σ) (fun r => (zQ [] [(3, 72, 77), (3, 83, 85), (3, 87, 88), (3, 164, 170), (3, 172, 279)] [10, 11] [(4, 3, 4)]) σ0 (r.1)) := by
  unfold fX12_isRhythm_21
  exact fw_fX12_isRhythm_22 h
theorem fw_fX12_isRhythm {σ0 : zSt} {σ : zSt} {x1 : Int32} (h : (zQ [] [(3, 72, 77), (3, 83, 85), (3, 87, 88), (3, 164, 170), (3, 172, 279)] [10, 11] [(4, 3, 4)]) σ0 σ) : zpc (fX12_isRhythm σ x1) (fun r => (zQ [] [(3, 72, 77), (3, 83, 85), (3, 87, 88), (3, 164, 170), (3, 172, 279)] [10, 11] [(4, 3, 4)]) σ0 (r.1)) := by
  unfold fX12_isRhythm
  exact zpc_if (fun _ => fw_fX12_isRhythm_21 h) (fun _ => zpc_bi (fw_fX12_wreg h) (fun σ1 v2 hσ1 => zpc_if (fun _ => fw_fX12_isRhythm_21 hσ1) (fun _ => fw_fX12_isRhythm_22 hσ1)))
theorem fw_fX12_isOn_60 {σ0 : zSt} {σ : zSt} {x3 : Int32} {s0 : Int32} (h : (zQ [] [(3, 72, 77), (3, 83, 85), (3, 87, 88), (3, 164, 170), (3, 172, 279)] [10, 11] [(4, 3, 4)]) σ0 σ) : zpc (fX12_isOn_60 σ x3 s0) (fun r => (zQ [] [(3, 72, 77), (3, 83, 85), (3, 87, 88), (3, 164, 170), (3, 172, 279)] [10, 11] [(4, 3, 4)]) σ0 (r.1)) := by
  unfold fX12_isOn_60
  exact zpc_bi (fw_fX12_wreg h) (fun σ1 v2 hσ1 => zpc_some hσ1)
theorem fw_fX12_isOn {σ0 : zSt} {σ : zSt} {x1 : Int32} {x2 : Int32} (h : (zQ [] [(3, 72, 77), (3, 83, 85), (3, 87, 88), (3, 164, 170), (3, 172, 279)] [10, 11] [(4, 3, 4)]) σ0 σ) : zpc (fX12_isOn σ x1 x2) (fun r => (zQ [] [(3, 72, 77), (3, 83, 85), (3, 87, 88), (3, 164, 170), (3, 172, 279)] [10, 11] [(4, 3, 4)]) σ0 (r.1)) := by
  unfold fX12_isOn
  exact zpc_bi (fw_fX12_wreg h) (fun σ3 v4 hσ3 => zpc_bv (fun v5 _ => zpc_bi (fw_fX12_isRhythm hσ3) (fun σ6 v7 hσ6 => zpc_if (fun _ => zpc_some hσ6) (fun _ => zpc_if (fun _ => fw_fX12_isOn_60 hσ6) (fun _ => zpc_if (fun _ => zpc_if (fun _ => fw_fX12_isOn_60 hσ6) (fun _ => fw_fX12_isOn_60 hσ6)) (fun _ => zpc_if (fun _ => fw_fX12_isOn_60 hσ6) (fun _ => fw_fX12_isOn_60 hσ6)))))))
theorem fw_fX12_digit_20 {σ0 : zSt} {σ : zSt} {s0 : Int32} (h : (zQ [] [(3, 72, 77), (3, 83, 85), (3, 87, 88), (3, 164, 170), (3, 172, 279)] [10, 11] [(4, 3, 4)]) σ0 σ) : zpc (fX12_digit_20 σ s0) (fun r => (zQ [] [(3, 72, 77), (3, 83, 85), (3, 87, 88), (3, 164, 170), (3, 172, 279)] [10, 11] [(4, 3, 4)]) σ0 (r.1)) := by
  unfold fX12_digit_20
  exact zpc_some h
theorem fw_fX12_digit {σ0 : zSt} {σ : zSt} {x0 : Int32} (h : (zQ [] [(3, 72, 77), (3, 83, 85), (3, 87, 88), (3, 164, 170), (3, 172, 279)] [10, 11] [(4, 3, 4)]) σ0 σ) : zpc (fX12_digit σ x0) (fun r => (zQ [] [(3, 72, 77), (3, 83, 85), (3, 87, 88), (3, 164, 170), (3, 172, 279)] [10, 11] [(4, 3, 4)]) σ0 (r.1)) := by
  unfold fX12_digit
  exact zpc_if (fun _ => fw_fX12_digit_20 h) (fun _ => fw_fX12_digit_20 h)
theorem fw_fX12_patchByte_25 {σ0 : zSt} {σ : zSt} {x2 : Int32} {s0 : Int32} (h : (zQ [] [(3, 72, 77), (3, 83, 85), (3, 87, 88), (3, 164, 170), (3, 172, 279)] [10, 11] [(4, 3, 4)]) σ0 σ) : zpc (fX12_patchByte_25 σ x2 s0) (fun r => (zQ [] [(3, 72, 77), (3, 83, 85), (3, 87, 88), (3, 164, 170), (3, 172, 279)] [10, 11] [(4, 3, 4)]) σ0 (r.1)) := by
  unfold fX12_patchByte_25
  exact zpc_if (fun _ => zpc_bi (fw_fX12_wreg h) (fun σ6 v7 hσ6 => zpc_some hσ6)) (fun _ => zpc_bv (fun v1 _ => zpc_ck (zpc_ck (zpc_bi (fw_fX12_digit h) (fun σ2 v3 hσ2 => zpc_ck (zpc_ck (zpc_bi (fw_fX12_digit hσ2) (fun σ4 v5 hσ4 => zpc_some hσ4))))))))
theorem fw_fX12_patchByte {σ0 : zSt} {σ : zSt} {x1 : Int32} {x2 : Int32} (h : (zQ [] [(3, 72, 77), (3, 83, 85), (3, 87, 88), (3, 164, 170), (3, 172, 279)] [10, 11] [(4, 3, 4)]) σ0 σ) : zpc (fX12_patchByte σ x1 x2) (fun r => (zQ [] [(3, 72, 77), (3, 83, 85), (3, 87, 88), (3, 164, 170), (3, 172, 279)] [10, 11] [(4, 3, 4)]) σ0 (r.1)) := by
  unfold fX12_patchByte
  exact zpc_bi (fw_fX12_isRhythm h) (fun σ8 v9 hσ8 => zpc_if (fun _ => zpc_bi (fw_fX12_wreg hσ8) (fun σ10 v11 hσ10 => fw_fX12_patchByte_25 hσ10)) (fun _ => fw_fX12_patchByte_25 hσ8))
theorem fw_fX12_rate_140 {σ0 : zSt} {σ : zSt} {s0 : Int32} (h : (zQ [] [(3, 72, 77), (3, 83, 85), (3, 87, 88), (3, 164, 170), (3, 172, 279)] [10, 11] [(4, 3, 4)]) σ0 σ) : zpc (fX12_rate_140 σ s0) (fun r => (zQ [] [(3, 72, 77), (3, 83, 85), (3, 87, 88), (3, 164, 170), (3, 172, 279)] [10, 11] [(4, 3, 4)]) σ0 (r.1)) := by
  unfold fX12_rate_140
  exact zpc_some h
theorem fw_fX12_rate_99 {σ0 : zSt} {σ : zSt} {s0 : Int32} (h : (zQ [] [(3, 72, 77), (3, 83, 85), (3, 87, 88), (3, 164, 170), (3, 172, 279)] [10, 11] [(4, 3, 4)]) σ0 σ) : zpc (fX12_rate_99 σ s0) (fun r => (zQ [] [(3, 72, 77), (3, 83, 85), (3, 87, 88), (3, 164, 170), (3, 172, 279)] [10, 11] [(4, 3, 4)]) σ0 (r.1)) := by
  unfold fX12_rate_99
  exact zpc_some h
theorem fw_fX12_rate_17 {σ0 : zSt} {σ : zSt} {x1 : Int32} {x2 : Int32} {x3 : Int32} {s0 : Int32} (h : (zQ [] [(3, 72, 77), (3, 83, 85), (3, 87, 88), (3, 164, 170), (3, 172, 279)] [10, 11] [(4, 3, 4)]) σ0 σ) : zpc (fX12_rate_17 σ x1 x2 x3 s0) (fun r => (zQ [] [(3, 72, 77), (3, 83, 85), (3, 87, 88), (3, 164, 170), (3, 172, 279)] [10, 11] [(4, 3, 4)]) σ0 (r.1)) := by
  unfold fX12_rate_17
  exact zpc_if (fun _ => zpc_some h) (fun _ => zpc_if (fun _ => zpc_bi (fw_fX12_patchByte h) (fun σ1 v2 hσ1 => zpc_some hσ1)) (fun _ => zpc_if (fun _ => zpc_bi (fw_fX12_patchByte h) (fun σ3 v4 hσ3 => zpc_some hσ3)) (fun _ => zpc_if (fun _ => zpc_if (fun _ => zpc_bi (fw_fX12_patchByte h) (fun σ5 v6 hσ5 => fw_fX12_rate_99 hσ5)) (fun _ => fw_fX12_rate_99 h)) (fun _ => zpc_bi (fw_fX12_wreg h) (fun σ7 v8 hσ7 => zpc_if (fun _ => zpc_if (fun _ => fw_fX12_rate_140 hσ7) (fun _ => zpc_bi (fw_fX12_patchByte hσ7) (fun σ9 v10 hσ9 => fw_fX12_rate_140 hσ9))) (fun _ => fw_fX12_rate_140 hσ7))))))
theorem fw_fX12_rate {σ0 : zSt} {σ : zSt} {x1 : Int32} {x2 : Int32} {x3 : Int32} (h : (zQ [] [(3, 72, 77), (3, 83, 85), (3, 87, 88), (3, 164, 170), (3, 172, 279)] [10, 11] [(4, 3, 4)]) σ0 σ) : zpc (fX12_rate σ x1 x2 x3) (fun r => (zQ [] [(3, 72, 77), (3, 83, 85), (3, 87, 88), (3, 164, 170), (3, 172, 279)] [10, 11] [(4, 3, 4)]) σ0 (r.1)) := by
  unfold fX12_rate
  exact zpc_bi (fw_fX12_patchByte h) (fun σ11 v12 hσ11 => zpc_if (fun _ => fw_fX12_rate_17 hσ11) (fun _ => fw_fX12_rate_17 hσ11))
theorem fw_fX12_block {σ0 : zSt} {σ : zSt} {x1 : Int32} (h : (zQ [] [(3, 72, 77), (3, 83, 85), (3, 87, 88), (3, 164, 170), (3, 172, 279)] [10, 11] [(4, 3, 4)]) σ0 σ) : zpc (fX12_block σ x1) (fun r => (zQ [] [(3, 72, 77), (3, 83, 85), (3, 87, 88), (3, 164, 170), (3, 172, 279)] [10, 11] [(4, 3, 4)]) σ0 (r.1)) := by
  unfold fX12_block
  exact zpc_bi (fw_fX12_wreg h) (fun σ1 v2 hσ1 => zpc_some hσ1)
theorem fw_fX12_f {σ0 : zSt} {σ : zSt} {x1 : Int32} (h : (zQ [] [(3, 72, 77), (3, 83, 85), (3, 87, 88), (3, 164, 170), (3, 172, 279)] [10, 11] [(4, 3, 4)]) σ0 σ) : zpc (fX12_f σ x1) (fun r => (zQ [] [(3, 72, 77), (3, 83, 85), (3, 87, 88), (3, 164, 170), (3, 172, 279)] [10, 11] [(4, 3, 4)]) σ0 (r.1)) := by
  unfold fX12_f
  exact zpc_bi (fw_fX12_wreg h) (fun σ1 v2 hσ1 => zpc_bi (fw_fX12_wreg hσ1) (fun σ3 v4 hσ3 => zpc_some hσ3))
theorem fw_fX12_t_40 {σ0 : zSt} {σ : zSt} {s0 : Int32} (h : (zQ [] [(3, 72, 77), (3, 83, 85), (3, 87, 88), (3, 164, 170), (3, 172, 279)] [10, 11] [(4, 3, 4)]) σ0 σ) : zpc (fX12_t_40 σ s0) (fun r => (zQ [] [(3, 72, 77), (3, 83, 85), (3, 87, 88), (3, 164, 170), (3, 172, 279)] [10, 11] [(4, 3, 4)]) σ0 (r.1)) := by
  unfold fX12_t_40
  exact zpc_some h
theorem fw_fX12_t_35 {σ0 : zSt} {σ : zSt} (h : (zQ [] [(3, 72, 77), (3, 83, 85), (3, 87, 88), (3, 164, 170), (3, 172, 279)] [10, 11] [(4, 3, 4)]) σ0 σ) : zpc (fX12_t_35 σ) (fun r => (zQ [] [(3, 72, 77), (3, 83, 85), (3, 87, 88), (3, 164, 170), (3, 172, 279)] [10, 11] [(4, 3, 4)]) σ0 (r.1)) := by
  unfold fX12_t_35
  exact fw_fX12_t_40 h
theorem fw_fX12_t_39 {σ0 : zSt} {σ : zSt} (h : (zQ [] [(3, 72, 77), (3, 83, 85), (3, 87, 88), (3, 164, 170), (3, 172, 279)] [10, 11] [(4, 3, 4)]) σ0 σ) : zpc (fX12_t_39 σ) (fun r => (zQ [] [(3, 72, 77), (3, 83, 85), (3, 87, 88), (3, 164, 170), (3, 172, 279)] [10, 11] [(4, 3, 4)]) σ0 (r.1)) := by
  unfold fX12_t_39
  exact fw_fX12_t_40 h
theorem fw_fX12_t_19 {σ0 : zSt} {σ : zSt} {x0 : Int32} {x1 : Int32} (h : (zQ [] [(3, 72, 77), (3, 83, 85), (3, 87, 88), (3, 164, 170), (3, 172, 279)] [10, 11] [(4, 3, 4)]) σ0 σ) : zpc (fX12_t_19 σ x0 x1) (fun r => (zQ [] [(3, 72, 77), (3, 83, 85), (3, 87, 88), (3, 164, 170), (3, 172, 279)] [10, 11] [(4, 3, 4)]) σ0 (r.1)) := by
  unfold fX12_t_19
  exact zpc_if (fun _ => fw_fX12_t_39 h) (fun _ => zpc_if (fun _ => fw_fX12_t_35 h) (fun _ => zpc_if (fun _ => fw_fX12_t_35 h) (fun _ => fw_fX12_t_39 h)))
theorem fw_fX12_t {σ0 : zSt} {σ : zSt} {x0 : Int32} {x1 : Int32} (h : (zQ [] [(3, 72, 77), (3, 83, 85), (3, 87, 88), (3, 164, 170), (3, 172, 279)] [10, 11] [(4, 3, 4)]) σ0 σ) : zpc (fX12_t σ x0 x1) (fun r => (zQ [] [(3, 72, 77), (3, 83, 85), (3, 87, 88), (3, 164, 170), (3, 172, 279)] [10, 11] [(4, 3, 4)]) σ0 (r.1)) := by
  unfold fX12_t
  exact zpc_ck (zpc_if (fun _ => fw_fX12_t_35 h) (fun _ => zpc_ck (zpc_if (fun _ => zpc_if (fun _ => fw_fX12_t_35 h) (fun _ => fw_fX12_t_19 h)) (fun _ => fw_fX12_t_19 h))))
theorem fw_fX12_envelope_275 {σ0 : zSt} {σ : zSt} {s0 : Int32} {s1 : Int32} (h : (zQ [] [(3, 72, 77), (3, 83, 85), (3, 87, 88), (3, 164, 170), (3, 172, 279)] [10, 11] [(4, 3, 4)]) σ0 σ) (qs1 : zr 172 274 s1) : zpc (fX12_envelope_275 σ s0 s1) (fun r => (zQ [] [(3, 72, 77), (3, 83, 85), (3, 87, 88), (3, 164, 170), (3, 172, 279)] [10, 11] [(4, 3, 4)]) σ0 (r)) := by
  unfold fX12_envelope_275
  exact zpc_ck (zpc_bs (zQ.wr (a := 172) (b := 279) (lo := 172) (hi := 274) h qs1 rfl (by decide)) (fun σ1 hσ1 => zpc_some hσ1))
theorem fw_fX12_envelope_259 {σ0 : zSt} {σ : zSt} {x1 : Int32} {x15 : Int32} (h : (zQ [] [(3, 72, 77), (3, 83, 85), (3, 87, 88), (3, 164, 170), (3, 172, 279)] [10, 11] [(4, 3, 4)]) σ0 σ) (qx1 : zr 172 274 x1) : zpc (fX12_envelope_259 σ x1 x15) (fun r => (zQ [] [(3, 72, 77), (3, 83, 85), (3, 87, 88), (3, 164, 170), (3, 172, 279)] [10, 11] [(4, 3, 4)]) σ0 (r)) := by
  unfold fX12_envelope_259
  exact zpc_if (fun _ => fw_fX12_envelope_275 h qx1) (fun _ => fw_fX12_envelope_275 h qx1)
theorem fw_fX12_envelope_220 {σ0 : zSt} {σ : zSt} {x1 : Int32} {s0 : Int32} (h : (zQ [] [(3, 72, 77), (3, 83, 85), (3, 87, 88), (3, 164, 170), (3, 172, 279)] [10, 11] [(4, 3, 4)]) σ0 σ) (qx1 : zr 172 274 x1) : zpc (fX12_envelope_220 σ x1 s0) (fun r => (zQ [] [(3, 72, 77), (3, 83, 85), (3, 87, 88), (3, 164, 170), (3, 172, 279)] [10, 11] [(4, 3, 4)]) σ0 (r)) := by
  unfold fX12_envelope_220
  exact fw_fX12_envelope_259 h qx1
theorem fw_fX12_envelope_257 {σ0 : zSt} {σ : zSt} {x1 : Int32} {s0 : Int32} (h : (zQ [] [(3, 72, 77), (3, 83, 85), (3, 87, 88), (3, 164, 170), (3, 172, 279)] [10, 11] [(4, 3, 4)]) σ0 σ) (qx1 : zr 172 274 x1) : zpc (fX12_envelope_257 σ x1 s0) (fun r => (zQ [] [(3, 72, 77), (3, 83, 85), (3, 87, 88), (3, 164, 170), (3, 172, 279)] [10, 11] [(4, 3, 4)]) σ0 (r)) := by
  unfold fX12_envelope_257
  exact fw_fX12_envelope_259 h qx1
theorem fw_fX12_envelope_358 {σ0 : zSt} {σ : zSt} {s0 : Int32} {s1 : Int32} (h : (zQ [] [(3, 72, 77), (3, 83, 85), (3, 87, 88), (3, 164, 170), (3, 172, 279)] [10, 11] [(4, 3, 4)]) σ0 σ) (qs1 : zr 172 274 s1) : zpc (fX12_envelope_358 σ s0 s1) (fun r => (zQ [] [(3, 72, 77), (3, 83, 85), (3, 87, 88), (3, 164, 170), (3, 172, 279)] [10, 11] [(4, 3, 4)]) σ0 (r)) := by
  unfold fX12_envelope_358
  exact zpc_ck (zpc_bs (zQ.wr (a := 172) (b := 279) (lo := 172) (hi := 274) h qs1 rfl (by decide)) (fun σ2 hσ2 => zpc_some hσ2))
theorem fw_fX12_envelope_336 {σ0 : zSt} {σ : zSt} {x1 : Int32} {s0 : Int32} {s1 : Int32} (h : (zQ [] [(3, 72, 77), (3, 83, 85), (3, 87, 88), (3, 164, 170), (3, 172, 279)] [10, 11] [(4, 3, 4)]) σ0 σ) (qx1 : zr 172 274 x1) : zpc (fX12_envelope_336 σ x1 s0 s1) (fun r => (zQ [] [(3, 72, 77), (3, 83, 85), (3, 87, 88), (3, 164, 170), (3, 172, 279)] [10, 11] [(4, 3, 4)]) σ0 (r)) := by
  unfold fX12_envelope_336
  exact zpc_bv (fun v3 _ => zpc_if (fun _ => fw_fX12_envelope_358 h qx1) (fun _ => fw_fX12_envelope_358 h qx1))
theorem fw_fX12_envelope_159 {σ0 : zSt} {σ : zSt} {x1 : Int32} {x4 : Int32} {x7 : Int32} {x8 : Int32} {x9 : Int64} {s0 : Int32} (h : (zQ [] [(3, 72, 77), (3, 83, 85), (3, 87, 88), (3, 164, 170), (3, 172, 279)] [10, 11] [(4, 3, 4)]) σ0 σ) (qx1 : zr 172 274 x1) : zpc (fX12_envelope_159 σ x1 x4 x7 x8 x9 s0) (fun r => (zQ [] [(3, 72, 77), (3, 83, 85), (3, 87, 88), (3, 164, 170), (3, 172, 279)] [10, 11] [(4, 3, 4)]) σ0 (r)) := by
  unfold fX12_envelope_159
  exact zpc_ck (zpc_ck (zpc_bv (fun v4 _ => zpc_ck (zpc_bv (fun v5 _ => zpc_if (fun _ => zpc_if (fun _ => zpc_if (fun _ => fw_fX12_envelope_257 h qx1) (fun _ => zpc_bi (fw_fX12_t h) (fun σ10 v11 hσ10 => fw_fX12_envelope_257 hσ10 qx1))) (fun _ => zpc_if (fun _ => zpc_ck (fw_fX12_envelope_220 h qx1)) (fun _ => fw_fX12_envelope_220 h qx1))) (fun _ => zpc_if (fun _ => zpc_if (fun _ => zpc_ck (zpc_bi (fw_fX12_t h) (fun σ8 v9 hσ8 => fw_fX12_envelope_336 hσ8 qx1))) (fun _ => zpc_if (fun _ => zpc_bi (fw_fX12_t h) (fun σ6 v7 hσ6 => fw_fX12_envelope_336 hσ6 qx1)) (fun _ => fw_fX12_envelope_336 h qx1))) (fun _ => fw_fX12_envelope_336 h qx1)))))))
theorem fw_fX12_envelope_158 {σ0 : zSt} {σ : zSt} {x1 : Int32} {x4 : Int32} {x7 : Int32} {x8 : Int32} {x9 : Int64} (h : (zQ [] [(3, 72, 77), (3, 83, 85), (3, 87, 88), (3, 164, 170), (3, 172, 279)] [10, 11] [(4, 3, 4)]) σ0 σ) (qx1 : zr 172 274 x1) : zpc (fX12_envelope_158 σ x1 x4 x7 x8 x9) (fun r => (zQ [] [(3, 72, 77), (3, 83, 85), (3, 87, 88), (3, 164, 170), (3, 172, 279)] [10, 11] [(4, 3, 4)]) σ0 (r)) := by
  unfold fX12_envelope_158
  exact fw_fX12_envelope_159 h qx1
theorem fw_fX12_envelope_121 {σ0 : zSt} {σ : zSt} {x1 : Int32} {x4 : Int32} {x7 : Int32} {x8 : Int32} {x9 : Int64} {s0 : Int64} (h : (zQ [] [(3, 72, 77), (3, 83, 85), (3, 87, 88), (3, 164, 170), (3, 172, 279)] [10, 11] [(4, 3, 4)]) σ0 σ) (qx1 : zr 172 274 x1) : zpc (fX12_envelope_121 σ x1 x4 x7 x8 x9 s0) (fun r => (zQ [] [(3, 72, 77), (3, 83, 85), (3, 87, 88), (3, 164, 170), (3, 172, 279)] [10, 11] [(4, 3, 4)]) σ0 (r)) := by
  unfold fX12_envelope_121
  exact zpc_if (fun _ => fw_fX12_envelope_158 h qx1) (fun _ => zpc_ck (zpc_if (fun _ => zpc_ck (zpc_ck (zpc_bi (fw_fX12_t h) (fun σ12 v13 hσ12 => fw_fX12_envelope_159 hσ12 qx1)))) (fun _ => fw_fX12_envelope_158 h qx1)))
theorem fw_fX12_envelope_87 {σ0 : zSt} {σ : zSt} {x1 : Int32} {x4 : Int32} {x6 : Int32} {s0 : Int32} (h : (zQ [] [(3, 72, 77), (3, 83, 85), (3, 87, 88), (3, 164, 170), (3, 172, 279)] [10, 11] [(4, 3, 4)]) σ0 σ) (qx1 : zr 172 274 x1) : zpc (fX12_envelope_87 σ x1 x4 x6 s0) (fun r => (zQ [] [(3, 72, 77), (3, 83, 85), (3, 87, 88), (3, 164, 170), (3, 172, 279)] [10, 11] [(4, 3, 4)]) σ0 (r)) := by
  unfold fX12_envelope_87
  exact zpc_ck (zpc_bv (fun v14 _ => zpc_ck (zpc_bv (fun v15 _ => zpc_if (fun _ => fw_fX12_envelope_121 h qx1) (fun _ => fw_fX12_envelope_121 h qx1)))))
theorem fw_fX12_envelope_63 {σ0 : zSt} {σ : zSt} {x1 : Int32} {x4 : Int32} {x5 : Int32} {x6 : Int32} (h : (zQ [] [(3, 72, 77), (3, 83, 85), (3, 87, 88), (3, 164, 170), (3, 172, 279)] [10, 11] [(4, 3, 4)]) σ0 σ) (qx1 : zr 172 274 x1) : zpc (fX12_envelope_63 σ x1 x4 x5 x6) (fun r => (zQ [] [(3, 72, 77), (3, 83, 85), (3, 87, 88), (3, 164, 170), (3, 172, 279)] [10, 11] [(4, 3, 4)]) σ0 (r)) := by
  unfold fX12_envelope_63
  exact zpc_ck (zpc_if (fun _ => zpc_ck (fw_fX12_envelope_87 h qx1)) (fun _ => fw_fX12_envelope_87 h qx1))
theorem fw_fX12_envelope {σ0 : zSt} {σ : zSt} {x1 : Int32} {x2 : Int32} {x3 : Int32} (h : (zQ [] [(3, 72, 77), (3, 83, 85), (3, 87, 88), (3, 164, 170), (3, 172, 279)] [10, 11] [(4, 3, 4)]) σ0 σ) (qx1 : zr 172 274 x1) : zpc (fX12_envelope σ x1 x2 x3) (fun r => (zQ [] [(3, 72, 77), (3, 83, 85), (3, 87, 88), (3, 164, 170), (3, 172, 279)] [10, 11] [(4, 3, 4)]) σ0 (r)) := by
  unfold fX12_envelope
  exact zpc_ck (zpc_bv (fun v16 _ => zpc_bi (fw_fX12_rate h) (fun σ17 v18 hσ17 => zpc_if (fun _ => zpc_some hσ17) (fun _ => zpc_bi (fw_fX12_block hσ17) (fun σ19 v20 hσ19 => zpc_bi (fw_fX12_f hσ19) (fun σ21 v22 hσ21 => zpc_ck (zpc_bv (fun v23 _ => zpc_bi (fw_fX12_patchByte hσ21) (fun σ24 v25 hσ24 => zpc_if (fun _ => zpc_ck (zpc_bv (fun v26 _ => fw_fX12_envelope_63 hσ24 qx1))) (fun _ => fw_fX12_envelope_63 hσ24 qx1))))))))))
theorem fw_fX12_phase_150 {σ0 : zSt} {σ : zSt} {x1 : Int32} {x2 : Int32} {x5 : Int32} {x6 : Int32} (h : (zQ [] [(3, 72, 77), (3, 83, 85), (3, 87, 88), (3, 164, 170), (3, 172, 279)] [10, 11] [(4, 3, 4)]) σ0 σ) (qx1 : zr 172 274 x1) : zpc (fX12_phase_150 σ x1 x2 x5 x6) (fun r => (zQ [] [(3, 72, 77), (3, 83, 85), (3, 87, 88), (3, 164, 170), (3, 172, 279)] [10, 11] [(4, 3, 4)]) σ0 (r)) := by
  unfold fX12_phase_150
  exact zpc_ck (zpc_bi (fw_fX12_f h) (fun σ1 v2 hσ1 => zpc_bi (fw_fX12_block hσ1) (fun σ3 v4 hσ3 => zpc_ck (zpc_ck (zpc_bs (zQ.wr (a := 172) (b := 279) (lo := 174) (hi := 276) hσ3 (zr_add (lo := 174) (hi := 276) qx1 (zr_c (x := 2) (lo := 2) (hi := 2) (by decide)) (by decide)) rfl (by decide)) (fun σ5 hσ5 => zpc_some hσ5))))))
theorem fw_fX12_phase_148 {σ0 : zSt} {σ : zSt} {x1 : Int32} {x2 : Int32} {x5 : Int32} {s0 : Int32} (h : (zQ [] [(3, 72, 77), (3, 83, 85), (3, 87, 88), (3, 164, 170), (3, 172, 279)] [10, 11] [(4, 3, 4)]) σ0 σ) (qx1 : zr 172 274 x1) : zpc (fX12_phase_148 σ x1 x2 x5 s0) (fun r => (zQ [] [(3, 72, 77), (3, 83, 85), (3, 87, 88), (3, 164, 170), (3, 172, 279)] [10, 11] [(4, 3, 4)]) σ0 (r)) := by
  unfold fX12_phase_148
  exact fw_fX12_phase_150 h qx1
theorem fw_fX12_phase_132 {σ0 : zSt} {σ : zSt} {x1 : Int32} {x2 : Int32} {x5 : Int32} {x7 : Int32} {s0 : Int32} (h : (zQ [] [(3, 72, 77), (3, 83, 85), (3, 87, 88), (3, 164, 170), (3, 172, 279)] [10, 11] [(4, 3, 4)]) σ0 σ) (qx1 : zr 172 274 x1) : zpc (fX12_phase_132 σ x1 x2 x5 x7 s0) (fun r => (zQ [] [(3, 72, 77), (3, 83, 85), (3, 87, 88), (3, 164, 170), (3, 172, 279)] [10, 11] [(4, 3, 4)]) σ0 (r)) := by
  unfold fX12_phase_132
  exact zpc_if (fun _ => fw_fX12_phase_148 h qx1) (fun _ => fw_fX12_phase_148 h qx1)
theorem fw_fX12_phase_60 {σ0 : zSt} {σ : zSt} {x1 : Int32} {x2 : Int32} {x3 : Int32} {s0 : Int32} (h : (zQ [] [(3, 72, 77), (3, 83, 85), (3, 87, 88), (3, 164, 170), (3, 172, 279)] [10, 11] [(4, 3, 4)]) σ0 σ) (qx1 : zr 172 274 x1) : zpc (fX12_phase_60 σ x1 x2 x3 s0) (fun r => (zQ [] [(3, 72, 77), (3, 83, 85), (3, 87, 88), (3, 164, 170), (3, 172, 279)] [10, 11] [(4, 3, 4)]) σ0 (r)) := by
  unfold fX12_phase_60
  exact zpc_bi (fw_fX12_patchByte h) (fun σ6 v7 hσ6 => zpc_if (fun _ => fw_fX12_phase_150 hσ6 qx1) (fun _ => zpc_ck (zpc_ck (zpc_ck (zpc_bv (fun v8 _ => zpc_bi (fw_fX12_f hσ6) (fun σ9 v10 hσ9 => zpc_ck (zpc_bv (fun v11 _ => zpc_ck (zpc_if (fun _ => fw_fX12_phase_132 hσ9 qx1) (fun _ => zpc_ck (zpc_if (fun _ => fw_fX12_phase_132 hσ9 qx1) (fun _ => zpc_ck (fw_fX12_phase_132 hσ9 qx1))))))))))))))
theorem fw_fX12_phase {σ0 : zSt} {σ : zSt} {x1 : Int32} {x2 : Int32} {x3 : Int32} (h : (zQ [] [(3, 72, 77), (3, 83, 85), (3, 87, 88), (3, 164, 170), (3, 172, 279)] [10, 11] [(4, 3, 4)]) σ0 σ) (qx1 : zr 172 274 x1) : zpc (fX12_phase σ x1 x2 x3) (fun r => (zQ [] [(3, 72, 77), (3, 83, 85), (3, 87, 88), (3, 164, 170), (3, 172, 279)] [10, 11] [(4, 3, 4)]) σ0 (r)) := by
  unfold fX12_phase
  exact zpc_bi (fw_fX12_patchByte h) (fun σ12 v13 hσ12 => zpc_bv (fun v14 _ => zpc_if (fun _ => fw_fX12_phase_60 hσ12 qx1) (fun _ => zpc_if (fun _ => zpc_if (fun _ => fw_fX12_phase_60 hσ12 qx1) (fun _ => zpc_if (fun _ => fw_fX12_phase_60 hσ12 qx1) (fun _ => fw_fX12_phase_60 hσ12 qx1))) (fun _ => fw_fX12_phase_60 hσ12 qx1))))
theorem fw_fX12_drum_191 {σ0 : zSt} {σ : zSt} {s0 : Int32} (h : (zQ [] [(3, 72, 77), (3, 83, 85), (3, 87, 88), (3, 164, 170), (3, 172, 279)] [10, 11] [(4, 3, 4)]) σ0 σ) : zpc (fX12_drum_191 σ s0) (fun r => (zQ [] [(3, 72, 77), (3, 83, 85), (3, 87, 88), (3, 164, 170), (3, 172, 279)] [10, 11] [(4, 3, 4)]) σ0 (r.1)) := by
  unfold fX12_drum_191
  exact zpc_some h
theorem fw_fX12_drum_214 {σ0 : zSt} {σ : zSt} {s0 : Int32} (h : (zQ [] [(3, 72, 77), (3, 83, 85), (3, 87, 88), (3, 164, 170), (3, 172, 279)] [10, 11] [(4, 3, 4)]) σ0 σ) : zpc (fX12_drum_214 σ s0) (fun r => (zQ [] [(3, 72, 77), (3, 83, 85), (3, 87, 88), (3, 164, 170), (3, 172, 279)] [10, 11] [(4, 3, 4)]) σ0 (r.1)) := by
  unfold fX12_drum_214
  exact zpc_some h
theorem fw_fX12_drum_148 {σ0 : zSt} {σ : zSt} {x1 : Int32} {x2 : Int32} {x3 : Int32} {x6 : Int32} {x7 : Int32} (h : (zQ [] [(3, 72, 77), (3, 83, 85), (3, 87, 88), (3, 164, 170), (3, 172, 279)] [10, 11] [(4, 3, 4)]) σ0 σ) : zpc (fX12_drum_148 σ x1 x2 x3 x6 x7) (fun r => (zQ [] [(3, 72, 77), (3, 83, 85), (3, 87, 88), (3, 164, 170), (3, 172, 279)] [10, 11] [(4, 3, 4)]) σ0 (r.1)) := by
  unfold fX12_drum_148
  exact zpc_if (fun _ => zpc_if (fun _ => zpc_if (fun _ => fw_fX12_drum_191 h) (fun _ => fw_fX12_drum_191 h)) (fun _ => zpc_if (fun _ => fw_fX12_drum_191 h) (fun _ => fw_fX12_drum_191 h))) (fun _ => zpc_if (fun _ => fw_fX12_drum_214 h) (fun _ => zpc_if (fun _ => fw_fX12_drum_214 h) (fun _ => fw_fX12_drum_214 h)))
theorem fw_fX12_drum_147 {σ0 : zSt} {σ : zSt} {s0 : Int32} (h : (zQ [] [(3, 72, 77), (3, 83, 85), (3, 87, 88), (3, 164, 170), (3, 172, 279)] [10, 11] [(4, 3, 4)]) σ0 σ) : zpc (fX12_drum_147 σ s0) (fun r => (zQ [] [(3, 72, 77), (3, 83, 85), (3, 87, 88), (3, 164, 170), (3, 172, 279)] [10, 11] [(4, 3, 4)]) σ0 (r.1)) := by
  unfold fX12_drum_147
  exact zpc_some h
theorem fw_fX12_drum_100 {σ0 : zSt} {σ : zSt} {x1 : Int32} {x2 : Int32} {x3 : Int32} {x6 : Int32} {s0 : Int32} (h : (zQ [] [(3, 72, 77), (3, 83, 85), (3, 87, 88), (3, 164, 170), (3, 172, 279)] [10, 11] [(4, 3, 4)]) σ0 σ) : zpc (fX12_drum_100 σ x1 x2 x3 x6 s0) (fun r => (zQ [] [(3, 72, 77), (3, 83, 85), (3, 87, 88), (3, 164, 170), (3, 172, 279)] [10, 11] [(4, 3, 4)]) σ0 (r.1)) := by
  unfold fX12_drum_100
  exact zpc_if (fun _ => zpc_if (fun _ => zpc_if (fun _ => zpc_if (fun _ => fw_fX12_drum_147 h) (fun _ => fw_fX12_drum_147 h)) (fun _ => zpc_if (fun _ => fw_fX12_drum_147 h) (fun _ => fw_fX12_drum_147 h))) (fun _ => fw_fX12_drum_148 h)) (fun _ => fw_fX12_drum_148 h)
theorem fw_fX12_drum_79 {σ0 : zSt} {σ : zSt} {x1 : Int32} {x2 : Int32} {x3 : Int32} {s0 : Int32} (h : (zQ [] [(3, 72, 77), (3, 83, 85), (3, 87, 88), (3, 164, 170), (3, 172, 279)] [10, 11] [(4, 3, 4)]) σ0 σ) : zpc (fX12_drum_79 σ x1 x2 x3 s0) (fun r => (zQ [] [(3, 72, 77), (3, 83, 85), (3, 87, 88), (3, 164, 170), (3, 172, 279)] [10, 11] [(4, 3, 4)]) σ0 (r.1)) := by
  unfold fX12_drum_79
  exact zpc_ck (zpc_if (fun _ => fw_fX12_drum_100 h) (fun _ => fw_fX12_drum_100 h))
theorem fw_fX12_drum_74 {σ0 : zSt} {σ : zSt} {x1 : Int32} {x2 : Int32} {x3 : Int32} (h : (zQ [] [(3, 72, 77), (3, 83, 85), (3, 87, 88), (3, 164, 170), (3, 172, 279)] [10, 11] [(4, 3, 4)]) σ0 σ) : zpc (fX12_drum_74 σ x1 x2 x3) (fun r => (zQ [] [(3, 72, 77), (3, 83, 85), (3, 87, 88), (3, 164, 170), (3, 172, 279)] [10, 11] [(4, 3, 4)]) σ0 (r.1)) := by
  unfold fX12_drum_74
  exact fw_fX12_drum_79 h
theorem fw_fX12_drum {σ0 : zSt} {σ : zSt} {x1 : Int32} {x2 : Int32} {x3 : Int32} (h : (zQ [] [(3, 72, 77), (3, 83, 85), (3, 87, 88), (3, 164, 170), (3, 172, 279)] [10, 11] [(4, 3, 4)]) σ0 σ) : zpc (fX12_drum σ x1 x2 x3) (fun r => (zQ [] [(3, 72, 77), (3, 83, 85), (3, 87, 88), (3, 164, 170), (3, 172, 279)] [10, 11] [(4, 3, 4)]) σ0 (r.1)) := by
  unfold fX12_drum
  exact zpc_ck (zpc_ck (zpc_bv (fun v1 _ => zpc_ck (zpc_ck (zpc_bv (fun v2 _ => zpc_if (fun _ => zpc_if (fun _ => zpc_if (fun _ => fw_fX12_drum_79 h) (fun _ => fw_fX12_drum_74 h)) (fun _ => fw_fX12_drum_74 h)) (fun _ => fw_fX12_drum_74 h)))))))
theorem fw_fX12_kept_97 {σ0 : zSt} {σ : zSt} {s0 : Int32} (h : (zQ [] [(3, 72, 77), (3, 83, 85), (3, 87, 88), (3, 164, 170), (3, 172, 279)] [10, 11] [(4, 3, 4)]) σ0 σ) : zpc (fX12_kept_97 σ s0) (fun r => (zQ [] [(3, 72, 77), (3, 83, 85), (3, 87, 88), (3, 164, 170), (3, 172, 279)] [10, 11] [(4, 3, 4)]) σ0 (r.1)) := by
  unfold fX12_kept_97
  exact zpc_some h
theorem fw_fX12_kept {σ0 : zSt} {σ : zSt} {x0 : Int32} (h : (zQ [] [(3, 72, 77), (3, 83, 85), (3, 87, 88), (3, 164, 170), (3, 172, 279)] [10, 11] [(4, 3, 4)]) σ0 σ) : zpc (fX12_kept σ x0) (fun r => (zQ [] [(3, 72, 77), (3, 83, 85), (3, 87, 88), (3, 164, 170), (3, 172, 279)] [10, 11] [(4, 3, 4)]) σ0 (r.1)) := by
  unfold fX12_kept
  exact zpc_if (fun _ => fw_fX12_kept_97 h) (fun _ => zpc_if (fun _ => fw_fX12_kept_97 h) (fun _ => zpc_if (fun _ => fw_fX12_kept_97 h) (fun _ => zpc_if (fun _ => fw_fX12_kept_97 h) (fun _ => zpc_if (fun _ => fw_fX12_kept_97 h) (fun _ => zpc_if (fun _ => fw_fX12_kept_97 h) (fun _ => zpc_if (fun _ => fw_fX12_kept_97 h) (fun _ => zpc_if (fun _ => fw_fX12_kept_97 h) (fun _ => zpc_if (fun _ => fw_fX12_kept_97 h) (fun _ => fw_fX12_kept_97 h)))))))))
theorem fw_fX12_waveAt_376 {σ0 : zSt} {σ : zSt} {s0 : Int32} (h : (zQ [] [(3, 72, 77), (3, 83, 85), (3, 87, 88), (3, 164, 170), (3, 172, 279)] [10, 11] [(4, 3, 4)]) σ0 σ) : zpc (fX12_waveAt_376 σ s0) (fun r => (zQ [] [(3, 72, 77), (3, 83, 85), (3, 87, 88), (3, 164, 170), (3, 172, 279)] [10, 11] [(4, 3, 4)]) σ0 (r.1)) := by
  unfold fX12_waveAt_376
  exact zpc_some h
theorem fw_fX12_waveAt_296 {σ0 : zSt} {σ : zSt} {x2 : Int32} {x3 : Int32} {x4 : Int32} {x5 : Int32} {s0 : Int32} (h : (zQ [] [(3, 72, 77), (3, 83, 85), (3, 87, 88), (3, 164, 170), (3, 172, 279)] [10, 11] [(4, 3, 4)]) σ0 σ) : zpc (fX12_waveAt_296 σ x2 x3 x4 x5 s0) (fun r => (zQ [] [(3, 72, 77), (3, 83, 85), (3, 87, 88), (3, 164, 170), (3, 172, 279)] [10, 11] [(4, 3, 4)]) σ0 (r.1)) := by
  unfold fX12_waveAt_296
  exact zpc_ck (zpc_bv (fun v1 _ => zpc_ck (zpc_ck (zpc_ck (zpc_bv (fun v2 _ => zpc_if (fun _ => zpc_some h) (fun _ => zpc_bi (fw_fX12_patchByte h) (fun σ3 v4 hσ3 => zpc_if (fun _ => fw_fX12_waveAt_376 hσ3) (fun _ => fw_fX12_waveAt_376 hσ3)))))))))
theorem fw_fX12_waveAt_263 {σ0 : zSt} {σ : zSt} {x1 : Int32} {x2 : Int32} {x3 : Int32} {x4 : Int32} {x5 : Int32} {x8 : Int32} {x11 : Int32} {s0 : Int32} (h : (zQ [] [(3, 72, 77), (3, 83, 85), (3, 87, 88), (3, 164, 170), (3, 172, 279)] [10, 11] [(4, 3, 4)]) σ0 σ) : zpc (fX12_waveAt_263 σ x1 x2 x3 x4 x5 x8 x11 s0) (fun r => (zQ [] [(3, 72, 77), (3, 83, 85), (3, 87, 88), (3, 164, 170), (3, 172, 279)] [10, 11] [(4, 3, 4)]) σ0 (r.1)) := by
  unfold fX12_waveAt_263
  exact zpc_ck (zpc_bv (fun v5 _ => zpc_if (fun _ => fw_fX12_waveAt_296 h) (fun _ => fw_fX12_waveAt_296 h)))
theorem fw_fX12_waveAt_260 {σ0 : zSt} {σ : zSt} {x1 : Int32} {x2 : Int32} {x3 : Int32} {x4 : Int32} {x5 : Int32} {x8 : Int32} {x11 : Int32} {s0 : Int32} (h : (zQ [] [(3, 72, 77), (3, 83, 85), (3, 87, 88), (3, 164, 170), (3, 172, 279)] [10, 11] [(4, 3, 4)]) σ0 σ) : zpc (fX12_waveAt_260 σ x1 x2 x3 x4 x5 x8 x11 s0) (fun r => (zQ [] [(3, 72, 77), (3, 83, 85), (3, 87, 88), (3, 164, 170), (3, 172, 279)] [10, 11] [(4, 3, 4)]) σ0 (r.1)) := by
  unfold fX12_waveAt_260
  exact zpc_ck (fw_fX12_waveAt_263 h)
theorem fw_fX12_waveAt_206 {σ0 : zSt} {σ : zSt} {x1 : Int32} {x2 : Int32} {x3 : Int32} {x4 : Int32} {x5 : Int32} {x8 : Int32} {s0 : Int32} (h : (zQ [] [(3, 72, 77), (3, 83, 85), (3, 87, 88), (3, 164, 170), (3, 172, 279)] [10, 11] [(4, 3, 4)]) σ0 σ) : zpc (fX12_waveAt_206 σ x1 x2 x3 x4 x5 x8 s0) (fun r => (zQ [] [(3, 72, 77), (3, 83, 85), (3, 87, 88), (3, 164, 170), (3, 172, 279)] [10, 11] [(4, 3, 4)]) σ0 (r.1)) := by
  unfold fX12_waveAt_206
  exact zpc_ck (zpc_ck (zpc_ck (zpc_bv (fun v6 _ => zpc_bi (fw_fX12_patchByte h) (fun σ7 v8 hσ7 => zpc_if (fun _ => fw_fX12_waveAt_263 hσ7) (fun _ => zpc_if (fun _ => fw_fX12_waveAt_260 hσ7) (fun _ => fw_fX12_waveAt_260 hσ7)))))))
theorem fw_fX12_waveAt_192 {σ0 : zSt} {σ : zSt} {x1 : Int32} {x2 : Int32} {x3 : Int32} {x4 : Int32} {x5 : Int32} {x8 : Int32} {x9 : Int32} (h : (zQ [] [(3, 72, 77), (3, 83, 85), (3, 87, 88), (3, 164, 170), (3, 172, 279)] [10, 11] [(4, 3, 4)]) σ0 σ) : zpc (fX12_waveAt_192 σ x1 x2 x3 x4 x5 x8 x9) (fun r => (zQ [] [(3, 72, 77), (3, 83, 85), (3, 87, 88), (3, 164, 170), (3, 172, 279)] [10, 11] [(4, 3, 4)]) σ0 (r.1)) := by
  unfold fX12_waveAt_192
  exact zpc_ck (zpc_ck (fw_fX12_waveAt_206 h))
theorem fw_fX12_waveAt_123 {σ0 : zSt} {σ : zSt} {x1 : Int32} {x2 : Int32} {x3 : Int32} {x4 : Int32} {x5 : Int32} {s0 : Int32} (h : (zQ [] [(3, 72, 77), (3, 83, 85), (3, 87, 88), (3, 164, 170), (3, 172, 279)] [10, 11] [(4, 3, 4)]) σ0 σ) : zpc (fX12_waveAt_123 σ x1 x2 x3 x4 x5 s0) (fun r => (zQ [] [(3, 72, 77), (3, 83, 85), (3, 87, 88), (3, 164, 170), (3, 172, 279)] [10, 11] [(4, 3, 4)]) σ0 (r.1)) := by
  unfold fX12_waveAt_123
  exact zpc_bi (fw_fX12_patchByte h) (fun σ9 v10 hσ9 => zpc_bv (fun v11 _ => zpc_bi (fw_fX12_wreg hσ9) (fun σ12 v13 hσ12 => zpc_bv (fun v14 _ => zpc_if (fun _ => fw_fX12_waveAt_206 hσ12) (fun _ => zpc_bi (fw_fX12_isRhythm hσ12) (fun σ15 v16 hσ15 => zpc_if (fun _ => fw_fX12_waveAt_192 hσ15) (fun _ => zpc_if (fun _ => fw_fX12_waveAt_192 hσ15) (fun _ => zpc_bi (fw_fX12_wreg hσ15) (fun σ17 v18 hσ17 => fw_fX12_waveAt_206 hσ17)))))))))
theorem fw_fX12_waveAt_91 {σ0 : zSt} {σ : zSt} {x1 : Int32} {x2 : Int32} {x3 : Int32} {x4 : Int32} {x5 : Int32} (h : (zQ [] [(3, 72, 77), (3, 83, 85), (3, 87, 88), (3, 164, 170), (3, 172, 279)] [10, 11] [(4, 3, 4)]) σ0 σ) : zpc (fX12_waveAt_91 σ x1 x2 x3 x4 x5) (fun r => (zQ [] [(3, 72, 77), (3, 83, 85), (3, 87, 88), (3, 164, 170), (3, 172, 279)] [10, 11] [(4, 3, 4)]) σ0 (r.1)) := by
  unfold fX12_waveAt_91
  exact fw_fX12_waveAt_123 h
theorem fw_fX12_waveAt_41 {σ0 : zSt} {σ : zSt} {x1 : Int32} {x2 : Int32} {x3 : Int32} {x4 : Int32} {s0 : Int32} (h : (zQ [] [(3, 72, 77), (3, 83, 85), (3, 87, 88), (3, 164, 170), (3, 172, 279)] [10, 11] [(4, 3, 4)]) σ0 σ) : zpc (fX12_waveAt_41 σ x1 x2 x3 x4 s0) (fun r => (zQ [] [(3, 72, 77), (3, 83, 85), (3, 87, 88), (3, 164, 170), (3, 172, 279)] [10, 11] [(4, 3, 4)]) σ0 (r.1)) := by
  unfold fX12_waveAt_41
  exact zpc_bi (fw_fX12_patchByte h) (fun σ19 v20 hσ19 => zpc_bv (fun v21 _ => zpc_bi (fw_fX12_f hσ19) (fun σ22 v23 hσ22 => zpc_ck (zpc_bi (fw_fX12_kept hσ22) (fun σ24 v25 hσ24 => zpc_bi (fw_fX12_block hσ24) (fun σ26 v27 hσ26 => zpc_bv (fun v28 _ => zpc_if (fun _ => fw_fX12_waveAt_91 hσ26) (fun _ => zpc_if (fun _ => fw_fX12_waveAt_91 hσ26) (fun _ => zpc_if (fun _ => zpc_ck (fw_fX12_waveAt_123 hσ26)) (fun _ => zpc_if (fun _ => zpc_ck (fw_fX12_waveAt_123 hσ26)) (fun _ => fw_fX12_waveAt_123 hσ26)))))))))))
theorem fw_fX12_waveAt {σ0 : zSt} {σ : zSt} {x1 : Int32} {x2 : Int32} {x3 : Int32} {x4 : Int32} (h : (zQ [] [(3, 72, 77), (3, 83, 85), (3, 87, 88), (3, 164, 170), (3, 172, 279)] [10, 11] [(4, 3, 4)]) σ0 σ) : zpc (fX12_waveAt σ x1 x2 x3 x4) (fun r => (zQ [] [(3, 72, 77), (3, 83, 85), (3, 87, 88), (3, 164, 170), (3, 172, 279)] [10, 11] [(4, 3, 4)]) σ0 (r.1)) := by
  unfold fX12_waveAt
  exact zpc_ck (zpc_if (fun _ => zpc_if (fun _ => zpc_ck (fw_fX12_waveAt_41 h)) (fun _ => zpc_ck (fw_fX12_waveAt_41 h))) (fun _ => zpc_some h))
theorem fw_fX12_operator_319 {σ0 : zSt} {σ : zSt} {x1 : Int32} {x2 : Int32} {x3 : Int32} {x5 : Int32} {x8 : Int32} (h : (zQ [] [(3, 72, 77), (3, 83, 85), (3, 87, 88), (3, 164, 170), (3, 172, 279)] [10, 11] [(4, 3, 4)]) σ0 σ) (qx3 : zr 172 274 x3) : zpc (fX12_operator_319 σ x1 x2 x3 x5 x8) (fun r => (zQ [] [(3, 72, 77), (3, 83, 85), (3, 87, 88), (3, 164, 170), (3, 172, 279)] [10, 11] [(4, 3, 4)]) σ0 (r)) := by
  unfold fX12_operator_319
  exact zpc_ck (zpc_bs (zQ.wr (a := 172) (b := 279) (lo := 176) (hi := 278) h (zr_add (lo := 176) (hi := 278) qx3 (zr_c (x := 4) (lo := 4) (hi := 4) (by decide)) (by decide)) rfl (by decide)) (fun σ1 hσ1 => zpc_bi (fw_fX12_waveAt hσ1) (fun σ2 v3 hσ2 => zpc_ck (zpc_bs (zQ.wr (a := 172) (b := 279) (lo := 175) (hi := 277) hσ2 (zr_add (lo := 175) (hi := 277) qx3 (zr_c (x := 3) (lo := 3) (hi := 3) (by decide)) (by decide)) rfl (by decide)) (fun σ4 hσ4 => zpc_some hσ4)))))
theorem fw_fX12_operator_266 {σ0 : zSt} {σ : zSt} {x1 : Int32} {x2 : Int32} {x3 : Int32} {x5 : Int32} {s0 : Int32} (h : (zQ [] [(3, 72, 77), (3, 83, 85), (3, 87, 88), (3, 164, 170), (3, 172, 279)] [10, 11] [(4, 3, 4)]) σ0 σ) (qx3 : zr 172 274 x3) : zpc (fX12_operator_266 σ x1 x2 x3 x5 s0) (fun r => (zQ [] [(3, 72, 77), (3, 83, 85), (3, 87, 88), (3, 164, 170), (3, 172, 279)] [10, 11] [(4, 3, 4)]) σ0 (r)) := by
  unfold fX12_operator_266
  exact zpc_ck (zpc_ck (zpc_bv (fun v5 _ => zpc_bi (fw_fX12_isRhythm h) (fun σ6 v7 hσ6 => zpc_if (fun _ => fw_fX12_operator_319 hσ6 qx3) (fun _ => zpc_if (fun _ => fw_fX12_operator_319 hσ6 qx3) (fun _ => zpc_ck (zpc_ck (zpc_bi (fw_fX12_drum hσ6) (fun σ8 v9 hσ8 => fw_fX12_operator_319 hσ8 qx3)))))))))
theorem fw_fX12_operator_190 {σ0 : zSt} {σ : zSt} {x1 : Int32} {x2 : Int32} {x3 : Int32} (h : (zQ [] [(3, 72, 77), (3, 83, 85), (3, 87, 88), (3, 164, 170), (3, 172, 279)] [10, 11] [(4, 3, 4)]) σ0 σ) (qx3 : zr 172 274 x3) : zpc (fX12_operator_190 σ x1 x2 x3) (fun r => (zQ [] [(3, 72, 77), (3, 83, 85), (3, 87, 88), (3, 164, 170), (3, 172, 279)] [10, 11] [(4, 3, 4)]) σ0 (r)) := by
  unfold fX12_operator_190
  exact zpc_bu (fw_fX12_phase h qx3) (fun σ10 hσ10 => zpc_ck (zpc_bv (fun v11 _ => zpc_bi (fw_fX12_patchByte hσ10) (fun σ12 v13 hσ12 => zpc_bv (fun v14 _ => zpc_if (fun _ => zpc_ck (fw_fX12_operator_266 hσ12 qx3)) (fun _ => zpc_if (fun _ => fw_fX12_operator_266 hσ12 qx3) (fun _ => zpc_ck (zpc_ck (fw_fX12_operator_266 hσ12 qx3)))))))))
theorem fw_fX12_operator_146 {σ0 : zSt} {σ : zSt} {x1 : Int32} {x2 : Int32} {x3 : Int32} (h : (zQ [] [(3, 72, 77), (3, 83, 85), (3, 87, 88), (3, 164, 170), (3, 172, 279)] [10, 11] [(4, 3, 4)]) σ0 σ) (qx3 : zr 172 274 x3) : zpc (fX12_operator_146 σ x1 x2 x3) (fun r => (zQ [] [(3, 72, 77), (3, 83, 85), (3, 87, 88), (3, 164, 170), (3, 172, 279)] [10, 11] [(4, 3, 4)]) σ0 (r)) := by
  unfold fX12_operator_146
  exact zpc_ck (zpc_if (fun _ => zpc_ck (zpc_ck (zpc_bi (fw_fX12_patchByte h) (fun σ15 v16 hσ15 => zpc_if (fun _ => fw_fX12_operator_190 hσ15 qx3) (fun _ => zpc_ck (zpc_bs (zQ.wr (a := 172) (b := 279) (lo := 173) (hi := 275) hσ15 (zr_add (lo := 173) (hi := 275) qx3 (zr_c (x := 1) (lo := 1) (hi := 1) (by decide)) (by decide)) rfl (by decide)) (fun σ17 hσ17 => fw_fX12_operator_190 hσ17 qx3))))))) (fun _ => fw_fX12_operator_190 h qx3))
theorem fw_fX12_operator_113 {σ0 : zSt} {σ : zSt} {x1 : Int32} {x2 : Int32} {x3 : Int32} (h : (zQ [] [(3, 72, 77), (3, 83, 85), (3, 87, 88), (3, 164, 170), (3, 172, 279)] [10, 11] [(4, 3, 4)]) σ0 σ) (qx3 : zr 172 274 x3) : zpc (fX12_operator_113 σ x1 x2 x3) (fun r => (zQ [] [(3, 72, 77), (3, 83, 85), (3, 87, 88), (3, 164, 170), (3, 172, 279)] [10, 11] [(4, 3, 4)]) σ0 (r)) := by
  unfold fX12_operator_113
  exact zpc_ck (zpc_if (fun _ => zpc_ck (zpc_if (fun _ => zpc_ck (zpc_bs (zQ.wr (a := 172) (b := 279) (lo := 173) (hi := 275) h (zr_add (lo := 173) (hi := 275) qx3 (zr_c (x := 1) (lo := 1) (hi := 1) (by decide)) (by decide)) rfl (by decide)) (fun σ18 hσ18 => fw_fX12_operator_190 hσ18 qx3))) (fun _ => fw_fX12_operator_146 h qx3))) (fun _ => fw_fX12_operator_146 h qx3))
theorem fw_fX12_operator_53 {σ0 : zSt} {σ : zSt} {x1 : Int32} {x2 : Int32} {x3 : Int32} {x4 : Int32} (h : (zQ [] [(3, 72, 77), (3, 83, 85), (3, 87, 88), (3, 164, 170), (3, 172, 279)] [10, 11] [(4, 3, 4)]) σ0 σ) (qx3 : zr 172 274 x3) : zpc (fX12_operator_53 σ x1 x2 x3 x4) (fun r => (zQ [] [(3, 72, 77), (3, 83, 85), (3, 87, 88), (3, 164, 170), (3, 172, 279)] [10, 11] [(4, 3, 4)]) σ0 (r)) := by
  unfold fX12_operator_53
  exact zpc_ck (zpc_bs (zQ.wr (a := 172) (b := 279) (lo := 177) (hi := 279) h (zr_add (lo := 177) (hi := 279) qx3 (zr_c (x := 5) (lo := 5) (hi := 5) (by decide)) (by decide)) rfl (by decide)) (fun σ19 hσ19 => zpc_bu (fw_fX12_envelope hσ19 qx3) (fun σ20 hσ20 => zpc_ck (zpc_if (fun _ => zpc_ck (zpc_if (fun _ => fw_fX12_operator_113 hσ20 qx3) (fun _ => zpc_ck (zpc_bs (zQ.wr (a := 172) (b := 279) (lo := 173) (hi := 275) hσ20 (zr_add (lo := 173) (hi := 275) qx3 (zr_c (x := 1) (lo := 1) (hi := 1) (by decide)) (by decide)) rfl (by decide)) (fun σ21 hσ21 => zpc_ck (zpc_bs (zQ.wr (a := 172) (b := 279) (lo := 174) (hi := 276) hσ21 (zr_add (lo := 174) (hi := 276) qx3 (zr_c (x := 2) (lo := 2) (hi := 2) (by decide)) (by decide)) rfl (by decide)) (fun σ22 hσ22 => fw_fX12_operator_190 hσ22 qx3))))))) (fun _ => fw_fX12_operator_113 hσ20 qx3)))))
theorem fw_fX12_operator_52 {σ0 : zSt} {σ : zSt} {x1 : Int32} {x2 : Int32} {x3 : Int32} {x4 : Int32} {s0 : Int32} {s1 : Int32} (h : (zQ [] [(3, 72, 77), (3, 83, 85), (3, 87, 88), (3, 164, 170), (3, 172, 279)] [10, 11] [(4, 3, 4)]) σ0 σ) (qx3 : zr 172 274 x3) (qs1 : zr 172 279 s1) : zpc (fX12_operator_52 σ x1 x2 x3 x4 s0 s1) (fun r => (zQ [] [(3, 72, 77), (3, 83, 85), (3, 87, 88), (3, 164, 170), (3, 172, 279)] [10, 11] [(4, 3, 4)]) σ0 (r)) := by
  unfold fX12_operator_52
  exact zpc_ck (zpc_bs (zQ.wr (a := 172) (b := 279) (lo := 172) (hi := 279) h qs1 rfl (by decide)) (fun σ23 hσ23 => fw_fX12_operator_53 hσ23 qx3))
theorem fw_fX12_operator {σ0 : zSt} {σ : zSt} {x1 : Int32} {x2 : Int32} (h : (zQ [] [(3, 72, 77), (3, 83, 85), (3, 87, 88), (3, 164, 170), (3, 172, 279)] [10, 11] [(4, 3, 4)]) σ0 σ) (qx1 : zr 0 8 x1) (qx2 : zr 0 1 x2) : zpc (fX12_operator σ x1 x2) (fun r => (zQ [] [(3, 72, 77), (3, 83, 85), (3, 87, 88), (3, 164, 170), (3, 172, 279)] [10, 11] [(4, 3, 4)]) σ0 (r)) := by
  unfold fX12_operator
  exact zpc_bv (fun v24 ev24 => zpc_bi (fw_fX12_isOn h) (fun σ25 v26 hσ25 => zpc_ck (zpc_if (fun _ => fw_fX12_operator_53 hσ25 (show zr 172 274 v24 by rw [ev24]; exact (zr_add (lo := 172) (hi := 274) (zr_c (x := 172) (lo := 172) (hi := 172) (by decide)) (zr_mul (lo := 0) (hi := 102) (zr_c (x := 6) (lo := 6) (hi := 6) (by decide)) (zr_add (lo := 0) (hi := 17) (zr_mul (lo := 0) (hi := 16) (zr_c (x := 2) (lo := 2) (hi := 2) (by decide)) qx1 (by decide)) qx2 (by decide)) (by decide)) (by decide)))) (fun _ => zpc_if (fun _ => fw_fX12_operator_52 hσ25 (show zr 172 274 v24 by rw [ev24]; exact (zr_add (lo := 172) (hi := 274) (zr_c (x := 172) (lo := 172) (hi := 172) (by decide)) (zr_mul (lo := 0) (hi := 102) (zr_c (x := 6) (lo := 6) (hi := 6) (by decide)) (zr_add (lo := 0) (hi := 17) (zr_mul (lo := 0) (hi := 16) (zr_c (x := 2) (lo := 2) (hi := 2) (by decide)) qx1 (by decide)) qx2 (by decide)) (by decide)) (by decide))) (zr_w (zr_add (lo := 173) (hi := 275) (show zr 172 274 v24 by rw [ev24]; exact (zr_add (lo := 172) (hi := 274) (zr_c (x := 172) (lo := 172) (hi := 172) (by decide)) (zr_mul (lo := 0) (hi := 102) (zr_c (x := 6) (lo := 6) (hi := 6) (by decide)) (zr_add (lo := 0) (hi := 17) (zr_mul (lo := 0) (hi := 16) (zr_c (x := 2) (lo := 2) (hi := 2) (by decide)) qx1 (by decide)) qx2 (by decide)) (by decide)) (by decide))) (zr_c (x := 1) (lo := 1) (hi := 1) (by decide)) (by decide)) (by decide))) (fun _ => fw_fX12_operator_52 hσ25 (show zr 172 274 v24 by rw [ev24]; exact (zr_add (lo := 172) (hi := 274) (zr_c (x := 172) (lo := 172) (hi := 172) (by decide)) (zr_mul (lo := 0) (hi := 102) (zr_c (x := 6) (lo := 6) (hi := 6) (by decide)) (zr_add (lo := 0) (hi := 17) (zr_mul (lo := 0) (hi := 16) (zr_c (x := 2) (lo := 2) (hi := 2) (by decide)) qx1 (by decide)) qx2 (by decide)) (by decide)) (by decide))) (zr_w (zr_add (lo := 173) (hi := 275) (show zr 172 274 v24 by rw [ev24]; exact (zr_add (lo := 172) (hi := 274) (zr_c (x := 172) (lo := 172) (hi := 172) (by decide)) (zr_mul (lo := 0) (hi := 102) (zr_c (x := 6) (lo := 6) (hi := 6) (by decide)) (zr_add (lo := 0) (hi := 17) (zr_mul (lo := 0) (hi := 16) (zr_c (x := 2) (lo := 2) (hi := 2) (by decide)) qx1 (by decide)) qx2 (by decide)) (by decide)) (by decide))) (zr_c (x := 1) (lo := 1) (hi := 1) (by decide)) (by decide)) (by decide)))))))
theorem fw_fX12_waves_20_body {σ0 : zSt} {k12 : zSt → Int32 → Option (zSt)} (hk12 : ∀ (y0 : zSt) (y1 : Int32), (zQ [] [(3, 72, 77), (3, 83, 85), (3, 87, 88), (3, 164, 170), (3, 172, 279)] [10, 11] [(4, 3, 4)]) σ0 y0 → zr 0 9 y1 → zpc (k12 y0 y1) (fun r => (zQ [] [(3, 72, 77), (3, 83, 85), (3, 87, 88), (3, 164, 170), (3, 172, 279)] [10, 11] [(4, 3, 4)]) σ0 (r))) {k20 : zSt → Int32 → Int32 → Option (zSt)} (hk20 : ∀ (y0 : zSt) (y1 : Int32) (y2 : Int32), (zQ [] [(3, 72, 77), (3, 83, 85), (3, 87, 88), (3, 164, 170), (3, 172, 279)] [10, 11] [(4, 3, 4)]) σ0 y0 → zr 0 8 y1 → zr 0 2 y2 → zpc (k20 y0 y1 y2) (fun r => (zQ [] [(3, 72, 77), (3, 83, 85), (3, 87, 88), (3, 164, 170), (3, 172, 279)] [10, 11] [(4, 3, 4)]) σ0 (r))) {σ : zSt} {x1 : Int32} {x2 : Int32} (h : (zQ [] [(3, 72, 77), (3, 83, 85), (3, 87, 88), (3, 164, 170), (3, 172, 279)] [10, 11] [(4, 3, 4)]) σ0 σ) (qx1 : zr 0 8 x1) (qx2 : zr 0 2 x2) : zpc (fX12_waves_20_body k12 k20 σ x1 x2) (fun r => (zQ [] [(3, 72, 77), (3, 83, 85), (3, 87, 88), (3, 164, 170), (3, 172, 279)] [10, 11] [(4, 3, 4)]) σ0 (r)) := by
  unfold fX12_waves_20_body
  exact zpc_if (fun g2 => zpc_bv (fun v1 ev1 => hk12 _ _ h (zr_w (show zr 1 9 v1 by rw [ev1]; exact (zr_add (lo := 1) (hi := 9) qx1 (zr_c (x := 1) (lo := 1) (hi := 1) (by decide)) (by decide))) (by decide)))) (fun g2 => zpc_bu (fw_fX12_operator h qx1 (zr_nge (k := 2) (m := 1) qx2 rfl g2 (by decide))) (fun σ2 hσ2 => zpc_bv (fun v3 ev3 => hk20 _ _ _ hσ2 qx1 (zr_w (show zr 1 2 v3 by rw [ev3]; exact (zr_add (lo := 1) (hi := 2) (zr_nge (k := 2) (m := 1) qx2 rfl g2 (by decide)) (zr_c (x := 1) (lo := 1) (hi := 1) (by decide)) (by decide))) (by decide)))))
theorem fw_fX12_waves_20 {σ0 : zSt} {k12 : zSt → Int32 → Option (zSt)} (hk12 : ∀ (y0 : zSt) (y1 : Int32), (zQ [] [(3, 72, 77), (3, 83, 85), (3, 87, 88), (3, 164, 170), (3, 172, 279)] [10, 11] [(4, 3, 4)]) σ0 y0 → zr 0 9 y1 → zpc (k12 y0 y1) (fun r => (zQ [] [(3, 72, 77), (3, 83, 85), (3, 87, 88), (3, 164, 170), (3, 172, 279)] [10, 11] [(4, 3, 4)]) σ0 (r))) : ∀ (n : Nat) (y0 : zSt) (y1 : Int32) (y2 : Int32), (zQ [] [(3, 72, 77), (3, 83, 85), (3, 87, 88), (3, 164, 170), (3, 172, 279)] [10, 11] [(4, 3, 4)]) σ0 y0 → zr 0 8 y1 → zr 0 2 y2 → zpc (fX12_waves_20 k12 n y0 y1 y2) (fun r => (zQ [] [(3, 72, 77), (3, 83, 85), (3, 87, 88), (3, 164, 170), (3, 172, 279)] [10, 11] [(4, 3, 4)]) σ0 (r)) := by
  intro n
  induction n with
  | zero => intro y0 y1 y2 h q1 q2; exact zpc_none
  | succ n ih => intro y0 y1 y2 h q1 q2; exact fw_fX12_waves_20_body hk12 ih h q1 q2
theorem fw_fX12_waves_157 {σ0 : zSt} {k82 : zSt → Int32 → Int32 → Option (zSt)} (hk82 : ∀ (y0 : zSt) (y1 : Int32) (y2 : Int32), (zQ [] [(3, 72, 77), (3, 83, 85), (3, 87, 88), (3, 164, 170), (3, 172, 279)] [10, 11] [(4, 3, 4)]) σ0 y0 → zpc (k82 y0 y1 y2) (fun r => (zQ [] [(3, 72, 77), (3, 83, 85), (3, 87, 88), (3, 164, 170), (3, 172, 279)] [10, 11] [(4, 3, 4)]) σ0 (r))) {σ : zSt} {x2 : Int32} {x3 : Int32} (h : (zQ [] [(3, 72, 77), (3, 83, 85), (3, 87, 88), (3, 164, 170), (3, 172, 279)] [10, 11] [(4, 3, 4)]) σ0 σ) : zpc (fX12_waves_157 k82 σ x2 x3) (fun r => (zQ [] [(3, 72, 77), (3, 83, 85), (3, 87, 88), (3, 164, 170), (3, 172, 279)] [10, 11] [(4, 3, 4)]) σ0 (r)) := by
  unfold fX12_waves_157
  exact zpc_bv (fun v4 _ => hk82 _ _ _ h)
theorem fw_fX12_waves_153 {σ0 : zSt} {k82 : zSt → Int32 → Int32 → Option (zSt)} (hk82 : ∀ (y0 : zSt) (y1 : Int32) (y2 : Int32), (zQ [] [(3, 72, 77), (3, 83, 85), (3, 87, 88), (3, 164, 170), (3, 172, 279)] [10, 11] [(4, 3, 4)]) σ0 y0 → zpc (k82 y0 y1 y2) (fun r => (zQ [] [(3, 72, 77), (3, 83, 85), (3, 87, 88), (3, 164, 170), (3, 172, 279)] [10, 11] [(4, 3, 4)]) σ0 (r))) {σ : zSt} {x3 : Int32} {s0 : Int32} {s1 : Int32} {s2 : Int32} {s3 : Int32} (h : (zQ [] [(3, 72, 77), (3, 83, 85), (3, 87, 88), (3, 164, 170), (3, 172, 279)] [10, 11] [(4, 3, 4)]) σ0 σ) : zpc (fX12_waves_153 k82 σ x3 s0 s1 s2 s3) (fun r => (zQ [] [(3, 72, 77), (3, 83, 85), (3, 87, 88), (3, 164, 170), (3, 172, 279)] [10, 11] [(4, 3, 4)]) σ0 (r)) := by
  unfold fX12_waves_153
  exact zpc_bv (fun v5 _ => fw_fX12_waves_157 hk82 h)
theorem fw_fX12_waves_82_body {σ0 : zSt} {k82 : zSt → Int32 → Int32 → Option (zSt)} (hk82 : ∀ (y0 : zSt) (y1 : Int32) (y2 : Int32), (zQ [] [(3, 72, 77), (3, 83, 85), (3, 87, 88), (3, 164, 170), (3, 172, 279)] [10, 11] [(4, 3, 4)]) σ0 y0 → zpc (k82 y0 y1 y2) (fun r => (zQ [] [(3, 72, 77), (3, 83, 85), (3, 87, 88), (3, 164, 170), (3, 172, 279)] [10, 11] [(4, 3, 4)]) σ0 (r))) {σ : zSt} {x2 : Int32} {x3 : Int32} (h : (zQ [] [(3, 72, 77), (3, 83, 85), (3, 87, 88), (3, 164, 170), (3, 172, 279)] [10, 11] [(4, 3, 4)]) σ0 σ) : zpc (fX12_waves_82_body k82 σ x2 x3) (fun r => (zQ [] [(3, 72, 77), (3, 83, 85), (3, 87, 88), (3, 164, 170), (3, 172, 279)] [10, 11] [(4, 3, 4)]) σ0 (r)) := by
  unfold fX12_waves_82_body
  exact zpc_if (fun _ => zpc_ck (zpc_bs (zQ.wi h rfl) (fun σ6 hσ6 => zpc_some hσ6))) (fun _ => zpc_bv (fun v7 _ => zpc_bi (fw_fX12_isRhythm h) (fun σ8 v9 hσ8 => zpc_if (fun _ => zpc_ck (zpc_bv (fun v10 _ => fw_fX12_waves_157 hk82 hσ8))) (fun _ => zpc_ck (zpc_if (fun _ => fw_fX12_waves_153 hk82 hσ8) (fun _ => zpc_ck (fw_fX12_waves_153 hk82 hσ8)))))))
theorem fw_fX12_waves_82 {σ0 : zSt} : ∀ (n : Nat) (y0 : zSt) (y1 : Int32) (y2 : Int32), (zQ [] [(3, 72, 77), (3, 83, 85), (3, 87, 88), (3, 164, 170), (3, 172, 279)] [10, 11] [(4, 3, 4)]) σ0 y0 → zpc (fX12_waves_82 n y0 y1 y2) (fun r => (zQ [] [(3, 72, 77), (3, 83, 85), (3, 87, 88), (3, 164, 170), (3, 172, 279)] [10, 11] [(4, 3, 4)]) σ0 (r)) := by
  intro n
  induction n with
  | zero => intro y0 y1 y2 h; exact zpc_none
  | succ n ih => intro y0 y1 y2 h; exact fw_fX12_waves_82_body ih h
theorem fw_fX12_waves_75 {σ0 : zSt} {σ : zSt} {s0 : Int32} {s1 : Int32} (h : (zQ [] [(3, 72, 77), (3, 83, 85), (3, 87, 88), (3, 164, 170), (3, 172, 279)] [10, 11] [(4, 3, 4)]) σ0 σ) (qs1 : zr 164 164 s1) : zpc (fX12_waves_75 σ s0 s1) (fun r => (zQ [] [(3, 72, 77), (3, 83, 85), (3, 87, 88), (3, 164, 170), (3, 172, 279)] [10, 11] [(4, 3, 4)]) σ0 (r)) := by
  unfold fX12_waves_75
  exact zpc_ck (zpc_bs (zQ.wr (a := 164) (b := 170) (lo := 164) (hi := 164) h qs1 rfl (by decide)) (fun σ11 hσ11 => fw_fX12_waves_82 _ _ _ _ hσ11))
theorem fw_fX12_waves_12_body {σ0 : zSt} {k12 : zSt → Int32 → Option (zSt)} (hk12 : ∀ (y0 : zSt) (y1 : Int32), (zQ [] [(3, 72, 77), (3, 83, 85), (3, 87, 88), (3, 164, 170), (3, 172, 279)] [10, 11] [(4, 3, 4)]) σ0 y0 → zr 0 9 y1 → zpc (k12 y0 y1) (fun r => (zQ [] [(3, 72, 77), (3, 83, 85), (3, 87, 88), (3, 164, 170), (3, 172, 279)] [10, 11] [(4, 3, 4)]) σ0 (r))) {σ : zSt} {x1 : Int32} (h : (zQ [] [(3, 72, 77), (3, 83, 85), (3, 87, 88), (3, 164, 170), (3, 172, 279)] [10, 11] [(4, 3, 4)]) σ0 σ) (qx1 : zr 0 9 x1) : zpc (fX12_waves_12_body k12 σ x1) (fun r => (zQ [] [(3, 72, 77), (3, 83, 85), (3, 87, 88), (3, 164, 170), (3, 172, 279)] [10, 11] [(4, 3, 4)]) σ0 (r)) := by
  unfold fX12_waves_12_body
  exact zpc_if (fun g3 => zpc_ck (zpc_bv (fun v12 _ => zpc_if (fun _ => fw_fX12_waves_75 h (zr_c (x := 164) (lo := 164) (hi := 164) (by decide))) (fun _ => fw_fX12_waves_75 h (zr_c (x := 164) (lo := 164) (hi := 164) (by decide)))))) (fun g3 => fw_fX12_waves_20 hk12 _ _ _ _ h (zr_nge (k := 9) (m := 8) qx1 rfl g3 (by decide)) (zr_w (zr_c (x := 0) (lo := 0) (hi := 0) (by decide)) (by decide)))
theorem fw_fX12_waves_12 {σ0 : zSt} : ∀ (n : Nat) (y0 : zSt) (y1 : Int32), (zQ [] [(3, 72, 77), (3, 83, 85), (3, 87, 88), (3, 164, 170), (3, 172, 279)] [10, 11] [(4, 3, 4)]) σ0 y0 → zr 0 9 y1 → zpc (fX12_waves_12 n y0 y1) (fun r => (zQ [] [(3, 72, 77), (3, 83, 85), (3, 87, 88), (3, 164, 170), (3, 172, 279)] [10, 11] [(4, 3, 4)]) σ0 (r)) := by
  intro n
  induction n with
  | zero => intro y0 y1 h q1; exact zpc_none
  | succ n ih => intro y0 y1 h q1; exact fw_fX12_waves_12_body ih h q1
theorem fw_fX12_waves {σ0 : zSt} {σ : zSt} (h : (zQ [] [(3, 72, 77), (3, 83, 85), (3, 87, 88), (3, 164, 170), (3, 172, 279)] [10, 11] [(4, 3, 4)]) σ0 σ) : zpc (fX12_waves σ) (fun r => (zQ [] [(3, 72, 77), (3, 83, 85), (3, 87, 88), (3, 164, 170), (3, 172, 279)] [10, 11] [(4, 3, 4)]) σ0 (r)) := by
  unfold fX12_waves
  exact zpc_ck (zpc_ck (zpc_bs (zQ.wl h rfl) (fun σ13 hσ13 => fw_fX12_waves_12 _ _ _ hσ13 (zr_w (zr_c (x := 0) (lo := 0) (hi := 0) (by decide)) (by decide)))))
theorem fw_fX12_mixed_151 {σ0 : zSt} {σ : zSt} {x2 : Int64} (h : (zQ [] [(3, 72, 77), (3, 83, 85), (3, 87, 88), (3, 164, 170), (3, 172, 279)] [10, 11] [(4, 3, 4)]) σ0 σ) : zpc (fX12_mixed_151 σ x2) (fun r => (zQ [] [(3, 72, 77), (3, 83, 85), (3, 87, 88), (3, 164, 170), (3, 172, 279)] [10, 11] [(4, 3, 4)]) σ0 (r)) := by
  unfold fX12_mixed_151
  exact zpc_ck (zpc_ck (zpc_ck (zpc_ck (zpc_bs (zQ.wl h rfl) (fun σ1 hσ1 => zpc_some hσ1)))))
theorem fw_fX12_mixed_76_body {σ0 : zSt} {k76 : zSt → Int64 → Int32 → Option (zSt)} (hk76 : ∀ (y0 : zSt) (y1 : Int64) (y2 : Int32), (zQ [] [(3, 72, 77), (3, 83, 85), (3, 87, 88), (3, 164, 170), (3, 172, 279)] [10, 11] [(4, 3, 4)]) σ0 y0 → zr 0 3 y2 → zpc (k76 y0 y1 y2) (fun r => (zQ [] [(3, 72, 77), (3, 83, 85), (3, 87, 88), (3, 164, 170), (3, 172, 279)] [10, 11] [(4, 3, 4)]) σ0 (r))) {σ : zSt} {x2 : Int64} {x4 : Int32} (h : (zQ [] [(3, 72, 77), (3, 83, 85), (3, 87, 88), (3, 164, 170), (3, 172, 279)] [10, 11] [(4, 3, 4)]) σ0 σ) (qx4 : zr 0 3 x4) : zpc (fX12_mixed_76_body k76 σ x2 x4) (fun r => (zQ [] [(3, 72, 77), (3, 83, 85), (3, 87, 88), (3, 164, 170), (3, 172, 279)] [10, 11] [(4, 3, 4)]) σ0 (r)) := by
  unfold fX12_mixed_76_body
  exact zpc_if (fun g4 => zpc_ck (zpc_if (fun _ => zpc_ck (zpc_ck (zpc_ck (zpc_bs (zQ.wi h rfl) (fun σ3 hσ3 => fw_fX12_mixed_151 hσ3))))) (fun _ => zpc_ck (zpc_ck (zpc_bs (zQ.wi h rfl) (fun σ2 hσ2 => fw_fX12_mixed_151 hσ2)))))) (fun g4 => zpc_ck (zpc_bs (zQ.wr (a := 164) (b := 170) (lo := 166) (hi := 168) h (zr_add (lo := 166) (hi := 168) (zr_c (x := 166) (lo := 166) (hi := 166) (by decide)) (zr_nge (k := 3) (m := 2) qx4 rfl g4 (by decide)) (by decide)) rfl (by decide)) (fun σ4 hσ4 => zpc_bv (fun v5 ev5 => hk76 _ _ _ hσ4 (zr_w (show zr 1 3 v5 by rw [ev5]; exact (zr_add (lo := 1) (hi := 3) (zr_nge (k := 3) (m := 2) qx4 rfl g4 (by decide)) (zr_c (x := 1) (lo := 1) (hi := 1) (by decide)) (by decide))) (by decide))))))
theorem fw_fX12_mixed_76 {σ0 : zSt} : ∀ (n : Nat) (y0 : zSt) (y1 : Int64) (y2 : Int32), (zQ [] [(3, 72, 77), (3, 83, 85), (3, 87, 88), (3, 164, 170), (3, 172, 279)] [10, 11] [(4, 3, 4)]) σ0 y0 → zr 0 3 y2 → zpc (fX12_mixed_76 n y0 y1 y2) (fun r => (zQ [] [(3, 72, 77), (3, 83, 85), (3, 87, 88), (3, 164, 170), (3, 172, 279)] [10, 11] [(4, 3, 4)]) σ0 (r)) := by
  intro n
  induction n with
  | zero => intro y0 y1 y2 h q2; exact zpc_none
  | succ n ih => intro y0 y1 y2 h q2; exact fw_fX12_mixed_76_body ih h q2
theorem fw_fX12_mixed_26 {σ0 : zSt} {σ : zSt} {s0 : Int32} (h : (zQ [] [(3, 72, 77), (3, 83, 85), (3, 87, 88), (3, 164, 170), (3, 172, 279)] [10, 11] [(4, 3, 4)]) σ0 σ) : zpc (fX12_mixed_26 σ s0) (fun r => (zQ [] [(3, 72, 77), (3, 83, 85), (3, 87, 88), (3, 164, 170), (3, 172, 279)] [10, 11] [(4, 3, 4)]) σ0 (r)) := by
  unfold fX12_mixed_26
  exact zpc_ck (zpc_ck (zpc_ck (zpc_ck (zpc_ck (zpc_ck (zpc_bv (fun v6 _ => fw_fX12_mixed_76 _ _ _ _ h (zr_w (zr_c (x := 0) (lo := 0) (hi := 0) (by decide)) (by decide)))))))))
theorem fw_fX12_mixed {σ0 : zSt} {σ : zSt} (h : (zQ [] [(3, 72, 77), (3, 83, 85), (3, 87, 88), (3, 164, 170), (3, 172, 279)] [10, 11] [(4, 3, 4)]) σ0 σ) : zpc (fX12_mixed σ) (fun r => (zQ [] [(3, 72, 77), (3, 83, 85), (3, 87, 88), (3, 164, 170), (3, 172, 279)] [10, 11] [(4, 3, 4)]) σ0 (r)) := by
  unfold fX12_mixed
  exact zpc_ck (zpc_if (fun _ => zpc_ck (fw_fX12_mixed_26 h)) (fun _ => fw_fX12_mixed_26 h))
theorem fw_fX12_once_377_body {σ0 : zSt} {k377 : zSt → Int64 → Option (zSt)} (hk377 : ∀ (y0 : zSt) (y1 : Int64), (zQ [] [(3, 72, 77), (3, 83, 85), (3, 87, 88), (3, 164, 170), (3, 172, 279)] [10, 11] [(4, 3, 4)]) σ0 y0 → zpc (k377 y0 y1) (fun r => (zQ [] [(3, 72, 77), (3, 83, 85), (3, 87, 88), (3, 164, 170), (3, 172, 279)] [10, 11] [(4, 3, 4)]) σ0 (r))) {σ : zSt} {x5 : Int64} (h : (zQ [] [(3, 72, 77), (3, 83, 85), (3, 87, 88), (3, 164, 170), (3, 172, 279)] [10, 11] [(4, 3, 4)]) σ0 σ) : zpc (fX12_once_377_body k377 σ x5) (fun r => (zQ [] [(3, 72, 77), (3, 83, 85), (3, 87, 88), (3, 164, 170), (3, 172, 279)] [10, 11] [(4, 3, 4)]) σ0 (r)) := by
  unfold fX12_once_377_body
  exact zpc_ck (zpc_ck (zpc_if (fun _ => zpc_some h) (fun _ => zpc_bu (fw_fX12_mixed h) (fun σ1 hσ1 => zpc_bv (fun v2 _ => hk377 _ _ hσ1)))))
theorem fw_fX12_once_377 {σ0 : zSt} : ∀ (n : Nat) (y0 : zSt) (y1 : Int64), (zQ [] [(3, 72, 77), (3, 83, 85), (3, 87, 88), (3, 164, 170), (3, 172, 279)] [10, 11] [(4, 3, 4)]) σ0 y0 → zpc (fX12_once_377 n y0 y1) (fun r => (zQ [] [(3, 72, 77), (3, 83, 85), (3, 87, 88), (3, 164, 170), (3, 172, 279)] [10, 11] [(4, 3, 4)]) σ0 (r)) := by
  intro n
  induction n with
  | zero => intro y0 y1 h; exact zpc_none
  | succ n ih => intro y0 y1 h; exact fw_fX12_once_377_body ih h
theorem fw_fX12_once_341_body {σ0 : zSt} {k341 : zSt → Int64 → Int64 → Option (zSt)} (hk341 : ∀ (y0 : zSt) (y1 : Int64) (y2 : Int64), (zQ [] [(3, 72, 77), (3, 83, 85), (3, 87, 88), (3, 164, 170), (3, 172, 279)] [10, 11] [(4, 3, 4)]) σ0 y0 → zpc (k341 y0 y1 y2) (fun r => (zQ [] [(3, 72, 77), (3, 83, 85), (3, 87, 88), (3, 164, 170), (3, 172, 279)] [10, 11] [(4, 3, 4)]) σ0 (r))) {σ : zSt} {x3 : Int64} {x5 : Int64} (h : (zQ [] [(3, 72, 77), (3, 83, 85), (3, 87, 88), (3, 164, 170), (3, 172, 279)] [10, 11] [(4, 3, 4)]) σ0 σ) : zpc (fX12_once_341_body k341 σ x3 x5) (fun r => (zQ [] [(3, 72, 77), (3, 83, 85), (3, 87, 88), (3, 164, 170), (3, 172, 279)] [10, 11] [(4, 3, 4)]) σ0 (r)) := by
  unfold fX12_once_341_body
  exact zpc_ck (zpc_ck (zpc_if (fun _ => zpc_ck (zpc_bv (fun v3 _ => fw_fX12_once_377 _ _ _ h))) (fun _ => zpc_bu (fw_fX12_waves h) (fun σ4 hσ4 => zpc_bv (fun v5 _ => hk341 _ _ _ hσ4)))))
theorem fw_fX12_once_341 {σ0 : zSt} : ∀ (n : Nat) (y0 : zSt) (y1 : Int64) (y2 : Int64), (zQ [] [(3, 72, 77), (3, 83, 85), (3, 87, 88), (3, 164, 170), (3, 172, 279)] [10, 11] [(4, 3, 4)]) σ0 y0 → zpc (fX12_once_341 n y0 y1 y2) (fun r => (zQ [] [(3, 72, 77), (3, 83, 85), (3, 87, 88), (3, 164, 170), (3, 172, 279)] [10, 11] [(4, 3, 4)]) σ0 (r)) := by
  intro n
  induction n with
  | zero => intro y0 y1 y2 h; exact zpc_none
  | succ n ih => intro y0 y1 y2 h; exact fw_fX12_once_341_body ih h
theorem fw_fX12_once_305_body {σ0 : zSt} {k305 : zSt → Int64 → Int64 → Option (zSt)} (hk305 : ∀ (y0 : zSt) (y1 : Int64) (y2 : Int64), (zQ [] [(3, 72, 77), (3, 83, 85), (3, 87, 88), (3, 164, 170), (3, 172, 279)] [10, 11] [(4, 3, 4)]) σ0 y0 → zpc (k305 y0 y1 y2) (fun r => (zQ [] [(3, 72, 77), (3, 83, 85), (3, 87, 88), (3, 164, 170), (3, 172, 279)] [10, 11] [(4, 3, 4)]) σ0 (r))) {σ : zSt} {x3 : Int64} {x5 : Int64} (h : (zQ [] [(3, 72, 77), (3, 83, 85), (3, 87, 88), (3, 164, 170), (3, 172, 279)] [10, 11] [(4, 3, 4)]) σ0 σ) : zpc (fX12_once_305_body k305 σ x3 x5) (fun r => (zQ [] [(3, 72, 77), (3, 83, 85), (3, 87, 88), (3, 164, 170), (3, 172, 279)] [10, 11] [(4, 3, 4)]) σ0 (r)) := by
  unfold fX12_once_305_body
  exact zpc_ck (zpc_ck (zpc_if (fun _ => zpc_ck (zpc_bv (fun v6 _ => fw_fX12_once_341 _ _ _ _ h))) (fun _ => zpc_bu (fw_fX12_sample h) (fun σ7 hσ7 => zpc_bv (fun v8 _ => hk305 _ _ _ hσ7)))))
theorem fw_fX12_once_305 {σ0 : zSt} : ∀ (n : Nat) (y0 : zSt) (y1 : Int64) (y2 : Int64), (zQ [] [(3, 72, 77), (3, 83, 85), (3, 87, 88), (3, 164, 170), (3, 172, 279)] [10, 11] [(4, 3, 4)]) σ0 y0 → zpc (fX12_once_305 n y0 y1 y2) (fun r => (zQ [] [(3, 72, 77), (3, 83, 85), (3, 87, 88), (3, 164, 170), (3, 172, 279)] [10, 11] [(4, 3, 4)]) σ0 (r)) := by
  intro n
  induction n with
  | zero => intro y0 y1 y2 h; exact zpc_none
  | succ n ih => intro y0 y1 y2 h; exact fw_fX12_once_305_body ih h
theorem fw_fX12_once_298 {σ0 : zSt} {σ : zSt} {x3 : Int64} (h : (zQ [] [(3, 72, 77), (3, 83, 85), (3, 87, 88), (3, 164, 170), (3, 172, 279)] [10, 11] [(4, 3, 4)]) σ0 σ) : zpc (fX12_once_298 σ x3) (fun r => (zQ [] [(3, 72, 77), (3, 83, 85), (3, 87, 88), (3, 164, 170), (3, 172, 279)] [10, 11] [(4, 3, 4)]) σ0 (r)) := by
  unfold fX12_once_298
  exact zpc_ck (zpc_bv (fun v9 _ => fw_fX12_once_305 _ _ _ _ h))
end ZJN0
section ZJN1
/-! ONE STEP AND WHAT LIES AROUND IT -/
theorem z_m5 {v : Int32} (h : zr 0 31 v) : v &&& 31 = v := Int32.toInt_inj.mp (by rw [z_mask (k := 5) h.1 rfl (by decide)]; have := h.1; have := h.2; show v.toInt % 32 = _; omega)
section ZS1
variable {σ μ s t : zSt} {B : Int × Int × Int}
theorem p_note {x : Int32} (r : zr 0 31 (σ.1 9 5)) : zpc (fX1_noteStep σ x) (fun r => r = zsi (zsi σ 44 (σ.1 9 5).toNatClampNeg x) 9 5 ((σ.1 9 5 + 1) &&& 31)) := by
  have e : zgi σ 9 5 &&& 31 = σ.1 9 5 := z_m5 r
  unfold fX1_noteStep
  rw [e]
  exact zpc_ck (zpc_bv (fun s1 f1 => zpc_bv (fun s2 f2 => zpc_some (by rw [f2, f1]; rfl))))
theorem t_note (h : zTT (zIa B) σ μ) (hF : zF σ μ) (hW : zWzz σ μ) (hB : B.1 ≤ 1000000000000000) {α β : Type} {Q : α → β → Prop} {f : zSt → Option α} {g : zSt → Option β} {c1 c2 c3 : Bool} (k : ∀ s t, zTT (zIa (B.1 + 1, B.2.1, B.2.2)) s t → zF s t → zWzz s t → zp2 (f s) (g t) Q) : zp2 (zbu (fX1_noteStep σ (σ.1 36 19)) f) (zck c1 (zck c2 (zck c3 (zbv (zsi μ 21 (((zreml (zgl μ 0 30) 32).toInt32).toNatClampNeg) (zgi μ 3 (19 : Int32).toNatClampNeg)) (fun σ32 => zbv (zsl σ32 0 30 ((zgl σ32 0 30) + 1)) g))))) Q := by
  obtain ⟨n0, nB, r5, e5, rest⟩ := h.2.2.2.2.2.1
  have e19 : zgi μ 3 (19 : Int32).toNatClampNeg = σ.1 36 19 := h.eq (by decide)
  have rl : zrl 0 1000000000000000 (μ.2 0 30) := ⟨n0, by omega⟩
  have rm : (zreml (zgl μ 0 30) 32).toInt = (μ.2 0 30).toInt % 32 := z_tlrem 32 rfl rl (by decide)
  have b0 := Int.emod_nonneg (μ.2 0 30).toInt (b := 32) (by decide)
  have b1 := Int.emod_lt_of_pos (μ.2 0 30).toInt (b := 32) (by decide)
  have ei : (zreml (zgl μ 0 30) 32).toInt32 = σ.1 9 5 := Int32.toInt_inj.mp (by
    rw [Int64.toInt_toInt32, rm, e5]
    exact z_bm (by omega) (by omega))
  rw [ei, e19]
  refine zp2_bul (p_note r5) (fun s es => zp2_ckr (zp2_ckr (zp2_ckr (zp2_bvr (fun t1 g1 => zp2_bvr (fun t2 g2 => ?_))))))
  have g2 : t2 = zsl t1 0 30 (μ.2 0 30 + 1) := by rw [g2, g1]; rfl
  have a : zQ [44, 9] [] [] [] σ s := by rw [es]; exact zQ.wi (zQ.wi zQ.rf rfl) rfl
  have b : zQ [21] [] [] [(0, 30, 30)] μ t2 := by rw [g2, g1]; exact zQ.wl (zQ.wi zQ.rf rfl) rfl
  have en : (t2.2 0 30).toInt = (μ.2 0 30).toInt + 1 := by
    rw [g2, zsl_at, if_pos ⟨rfl, rfl⟩]
    exact z_tladd rl (zrl_c (lo := 1) (hi := 1) (x := 1) (by decide)) (by decide)
  have es9 : s.1 9 5 = (σ.1 9 5 + 1) &&& 31 := by rw [es]; exact zsi_ej
  have ta : (σ.1 9 5 + 1).toInt = (σ.1 9 5).toInt + 1 := z_tadd r5 (zr_c (lo := 1) (hi := 1) (x := 1) (by decide)) (by decide)
  have r50 := r5.1
  have r51 := r5.2
  have tm : ((σ.1 9 5 + 1) &&& 31).toInt = ((σ.1 9 5).toInt + 1) % 32 := by rw [z_mask (k := 5) (by omega) rfl (by decide), ta]; rfl
  have kc := z_clamp r5.1
  have j44 : ∀ j, s.1 44 j = if j = (σ.1 9 5).toNatClampNeg then σ.1 36 19 else σ.1 44 j := fun j => by
    rw [es, zsi_ne (by decide), zsi_at]
    by_cases q : j = (σ.1 9 5).toNatClampNeg
    · rw [if_pos ⟨rfl, q⟩, if_pos q]
    · rw [if_neg (fun z => q z.2), if_neg q]
  have j21 : ∀ j, t2.1 21 j = if j = (σ.1 9 5).toNatClampNeg then σ.1 36 19 else μ.1 21 j := fun j => by
    rw [g2, g1]
    show (zsi μ 21 _ _).1 21 j = _
    rw [zsi_at]
    by_cases q : j = (σ.1 9 5).toNatClampNeg
    · rw [if_pos ⟨rfl, q⟩, if_pos q]
    · rw [if_neg (fun z => q z.2), if_neg q]
  have hI : zIa (B.1 + 1, B.2.1, B.2.2) s t2 := by
    refine ⟨h.2.2.2.1.kp a b (by decide +kernel) (by decide +kernel), h.2.2.2.2.1.kp a b rfl rfl, ⟨by omega, by show (t2.2 0 30).toInt ≤ B.1 + 1; omega, ?_, ?_, fun j hj => ⟨fun q => ?_, fun q => ?_⟩⟩, ?_⟩
    · rw [es9]; exact z_r31 _
    · rw [es9, tm, en, e5]; omega
    · rw [j44, j21]
      by_cases z : j = (σ.1 9 5).toNatClampNeg
      · rw [if_pos z, if_pos z]
      · rw [if_neg z, if_neg z]
        exact (rest j hj).1 (by omega)
    · rw [j44, if_neg (fun z => by omega)]
      exact (rest j hj).2 (by omega)
    · have zc := h.2.2.2.2.2.2
      rw [es, g2, g1]
      exact zc
  obtain ⟨k1, k2⟩ := h.kp hI a b rfl rfl
  exact k s t2 k1 (k2.f hF) (k2.w hW)
/-- counts in between: the class's wait for the samples -/
noncomputable def zCtb (b : Int32) (P : Int) (σ μ : zSt) : Prop := μ.2 4 0 = σ.2 38 0 + b.toInt64 ∧ μ.2 4 1 = σ.2 38 1 + 1 ∧ μ.2 4 2 = σ.2 38 2 ∧ 0 ≤ (μ.2 4 2).toInt ∧ (μ.2 4 2).toInt ≤ P
noncomputable def zIb (b : Int32) (B : Int × Int × Int) (σ μ : zSt) : Prop := zVe σ μ ∧ zPlr σ μ ∧ zSpt B.1 σ μ ∧ zCtb b B.2.1 σ μ ∧ zMs B.2.2 μ
theorem p_pass {b : Int32} : zpc (fX0_pass s b) (fun r => zQ [5, 11, 12] [(30, 3, 8), (30, 14, 16), (32, 65, 67), (32, 128, 271)] [5, 46, 48] [(38, 3, 6)] (zsl (zsl s 38 0 (s.2 38 0 + b.toInt64)) 38 1 (s.2 38 1 + 1)) r) := by
  unfold fX0_pass
  refine zpc_ck (zpc_bv (fun v9 e9 => zpc_bv (fun v10 e10 => zpc_ck (zpc_bv (fun s11 e11 => zpc_ck (zpc_ck (zpc_bv (fun s12 e12 => zpc_ck (zpc_bv (fun v13 _ => ?_))))))))))
  have e : s12 = zsl (zsl s 38 0 (s.2 38 0 + b.toInt64)) 38 1 (s.2 38 1 + 1) := by rw [e12, e11, e10, e9]; rfl
  rw [← e]
  exact fq_fX0_pass_38 _ _ _ _ _ zQ.rf
theorem t_passx {b : Int32} {v : Int64} (h : zTT (zIb b B) s t) (hF : zF s t) (hW : zWzz s t) : zp2 (fX0_pass s b) (fX12_once_298 t v) (fun r r' => zTT (zIa B) r r' ∧ zF r r' ∧ zWzz r r') := by
  refine zp2_of p_pass (fw_fX12_once_298 (σ0 := t) zQ.rf) (fun r r' q1 q2 => ?_)
  have a0 : zQ [5, 11, 12] [(30, 3, 8), (30, 14, 16), (32, 65, 67), (32, 128, 271)] [5, 46, 48] [(38, 0, 1), (38, 3, 6)] s (zsl (zsl s 38 0 (s.2 38 0 + b.toInt64)) 38 1 (s.2 38 1 + 1)) := zQ.wl (zQ.wl zQ.rf rfl) rfl
  have a : zQ [5, 11, 12] [(30, 3, 8), (30, 14, 16), (32, 65, 67), (32, 128, 271)] [5, 46, 48] [(38, 0, 1), (38, 3, 6)] s r := a0.tr (q1.mono rfl rfl)
  obtain ⟨⟨c0, c1, c2, c3, c4⟩, ms⟩ := h.2.2.2.2.2.2
  have hI : zIa B r r' := by
    refine ⟨h.2.2.2.1.kp a q2 (by decide +kernel) (by decide +kernel), h.2.2.2.2.1.kp a q2 rfl rfl, h.2.2.2.2.2.1.kp a q2 rfl rfl rfl rfl, ⟨?_, ?_, ?_, ?_, ?_⟩, ms.kp q2 rfl rfl rfl⟩
    · rw [q2.lo (k := 4) (a := 0) (b := 2) rfl (j := 0) (by decide) (by decide), q1.lo (k := 38) (a := 0) (b := 2) rfl (j := 0) (by decide) (by decide), c0]
      rfl
    · rw [q2.lo (k := 4) (a := 0) (b := 2) rfl (j := 1) (by decide) (by decide), q1.lo (k := 38) (a := 0) (b := 2) rfl (j := 1) (by decide) (by decide), c1]
      rfl
    · rw [q2.lo (k := 4) (a := 0) (b := 2) rfl (j := 2) (by decide) (by decide), q1.lo (k := 38) (a := 0) (b := 2) rfl (j := 2) (by decide) (by decide), c2]
      rfl
    · rw [q2.lo (k := 4) (a := 0) (b := 2) rfl (j := 2) (by decide) (by decide)]; exact c3
    · rw [q2.lo (k := 4) (a := 0) (b := 2) rfl (j := 2) (by decide) (by decide)]; exact c4
  obtain ⟨k1, k2⟩ := h.kp hI a q2 rfl rfl
  exact ⟨k1, k2.f hF, k2.w hW⟩
/-- what follows an instruction, given the line's end of both -/
noncomputable def zLe : Prop := ∀ (b : Int32) (B : Int × Int × Int) (s t : zSt), B.2.1 ≤ 1000000000000000 → zTT (zIb b B) s t → zF s t → zWzz s t → zp2 (fX11_endLine s ) (fX12_ends t ) (fun r r' => zTT (zIb b (B.1, B.2.1 + 1, B.2.2 + 228)) r r' ∧ zF r r' ∧ zWzz r r')
theorem zIb.mk {b : Int32} {C : Int} (h : zTT (zIa B) σ μ) (a : zQ [23] [] [] [] σ s) (d : zQ [] [(3, 67, 67)] [4] [] μ t) (v : zVe s t) (e0 : t.2 4 0 = μ.2 4 0 + b.toInt64) (e1 : t.2 4 1 = μ.2 4 1 + 1) (e2 : t.2 4 2 = μ.2 4 2) (e67 : (t.1 3 67).toInt = (μ.1 3 67).toInt + C) : zTT (zIb b (B.1, B.2.1, B.2.2 + C)) s t ∧ zPkk σ s μ t := by
  have hI : zIb b (B.1, B.2.1, B.2.2 + C) s t := by
    obtain ⟨⟨c0, c1, c2, c3, c4⟩, ms⟩ := h.2.2.2.2.2.2
    refine ⟨v, h.2.2.2.2.1.kp a d rfl rfl, h.2.2.2.2.2.1.kp a d rfl rfl rfl rfl, ⟨?_, ?_, ?_, ?_, ?_⟩, ?_⟩
    · rw [e0, a.rlo (k := 38) rfl, c0]
    · rw [e1, a.rlo (k := 38) rfl, c1]
    · rw [e2, a.rlo (k := 38) rfl, c2]
    · rw [e2]; exact c3
    · rw [e2]; exact c4
    · unfold zMs zMt at ms ⊢
      rw [e2, d.o (k := 3) (a := 66) (b := 66) rfl (j := 66) (by decide) (by decide), d.o (k := 0) (a := 3) (b := 3) rfl (j := 3) (by decide) (by decide), e67]
      show B.2.2 + C ≤ _
      omega
  exact h.kp hI a d rfl rfl
theorem zVe.v21 (h : zVe σ μ) {v w : Int32} (r : zr 0 227 v) (e : w = v) : zVe (zsi σ 23 21 v) (zsi μ 3 67 w) := h.w (z_pn23_18 (d := 3) (by decide)) rfl (zGo.r rfl r) (by rw [z_an1]; exact e)
theorem zIb.mono {b : Int32} {C D : Int} (h : zTT (zIb b B) s t) (h1 : B.2.1 ≤ C) (h2 : D ≤ B.2.2) : zTT (zIb b (B.1, C, D)) s t := by
  obtain ⟨a1, a2, a3, v, p, q, ⟨c0, c1, c2, c3, c4⟩, ms⟩ := h
  exact ⟨a1, a2, a3, v, p, q, ⟨c0, c1, c2, c3, Int.le_trans c4 h1⟩, Int.le_trans h2 ms⟩
theorem t_after {b : Int32} (hL : zLe) (hP : B.2.1 ≤ 1000000000000000) (h : zTT (zIa B) σ μ) (hF : zF σ μ) (hW : zWzz σ μ) (hb : zr 1 64 b) {α : Type} {Q : α → zSt → Prop} {f : zSt → Option α} (k : ∀ s t, zTT (zIa (B.1, B.2.1 + 1, B.2.2 + 1)) s t → zF s t → zWzz s t → zp2 (f s) (some t) Q) : zp2 (zbi (fX9_passes σ b) (fun σ3 v4 => if v4 = 0 then zbu (fX0_pass σ3 b) f else zbu (fX11_endLine σ3 ) (fun σ5 => zbu (fX0_pass σ5 b) f))) (fX12_once_229 μ b) Q := by
  have e21 : μ.1 3 67 = σ.1 23 21 := h.2.2.2.1.e21
  have r21 : zr 0 227 (σ.1 23 21) := h.2.2.2.1.2.1.at (k := 23) (j := 21) rfl
  have ra : zr 0 291 (σ.1 23 21 + b) := zr_add r21 hb (by decide)
  have tb : (σ.1 23 21 + b).toInt = (σ.1 23 21).toInt + b.toInt := z_tadd r21 hb (by decide)
  have hb1 := hb.1
  have fin : ∀ (s t : zSt) (v : Int64), zTT (zIb b (B.1, B.2.1 + 1, B.2.2 + 1)) s t → zF s t → zWzz s t → zp2 (zbu (fX0_pass s b) f) (fX12_once_298 t v) Q := fun s t v q1 q2 q3 => zp2_bulp (t_passx q1 q2 q3) (fun r r' q => k r r' q.1 q.2.1 q.2.2)
  unfold fX12_once_229
  refine zp2_ckr (zp2_ckr (zp2_bvr (fun t10 g10 => zp2_ckr (zp2_bvr (fun v11 g11 => zp2_ckr (zp2_ckr (zp2_bvr (fun t12 g12 => zp2_ckr (zp2_ckr (zp2_bvr (fun t13 g13 => zp2_ckr ?_)))))))))))
  have g10 : t10 = zsl μ 4 1 (μ.2 4 1 + 1) := g10
  have g12 : t12 = zsl (zsl μ 4 1 (μ.2 4 1 + 1)) 4 0 (μ.2 4 0 + b.toInt64) := by rw [g12, g10]; rfl
  have c67 : zgi t12 3 (67 : Int32).toNatClampNeg = σ.1 23 21 := by rw [g12]; exact e21
  have g13 : t13 = zsi t12 3 67 (σ.1 23 21 + b) := by rw [g13, c67]; rfl
  have c13 : zgi t13 3 (67 : Int32).toNatClampNeg = σ.1 23 21 + b := by rw [g13]; exact zsi_ej
  rw [c13]
  have v12 : zVe σ t12 := by
    have dq : zQ [] [] [4] [] μ t12 := by rw [g12]; exact zQ.wl (zQ.wl zQ.rf rfl) rfl
    exact h.2.2.2.1.kp (zQ.rf (R := []) (A := []) (S := []) (B := [])) dq (by decide +kernel) (by decide +kernel)
  have q12 : zQ [] [(3, 67, 67)] [4] [] μ t12 := by rw [g12]; exact zQ.wl (zQ.wl zQ.rf rfl) rfl
  by_cases c : 228 ≤ σ.1 23 21 + b
  · have nc : ¬ σ.1 23 21 + b < 228 := fun q => by have := Int32.le_iff_toInt_le.mp c; have := Int32.lt_iff_toInt_lt.mp q; omega
    refine zp2_ifr (fun q => absurd q nc) (fun _ => zp2_ckr (zp2_ckr (zp2_bvr (fun t14 g14 => ?_))))
    have g14 : t14 = zsi t12 3 67 (σ.1 23 21 + b - 228) := by rw [g14, g13]; exact zsi_ow
    refine zp2_bil (P := fun r => r = (zsi σ 23 21 (σ.1 23 21 + b - 228), 1)) ?_ (fun s1 v1 e1 => ?_)
    · unfold fX9_passes
      refine zpc_ck (zpc_ck (zpc_bv (fun s1 f1 => zpc_ck ?_)))
      have d1 : zgi s1 23 (21 : Int32).toNatClampNeg = σ.1 23 21 + b := by rw [f1]; exact zsi_ej
      rw [d1]
      refine zpc_if (fun _ => zpc_ck (zpc_ck (zpc_bv (fun s2 f2 => zpc_ck (zpc_some ?_))))) (fun q => absurd c q)
      have f2 : s2 = zsi σ 23 21 (σ.1 23 21 + b - 228) := by rw [f2, f1]; exact zsi_ow
      rw [f2]
    · cases e1
      refine zp2_ifl (fun q => absurd q (by decide)) (fun _ => ?_)
      have rn : zr 0 227 (σ.1 23 21 + b - 228) := zr_sub (lo := 0) (hi := 227) (zr_ge (k := 228) ra rfl c) (zr_c (lo := 228) (hi := 228) (x := 228) (by decide)) (by decide)
      have ts : (σ.1 23 21 + b - 228).toInt = (σ.1 23 21 + b).toInt - 228 := z_tsub ra (zr_c (lo := 228) (hi := 228) (x := 228) (by decide)) (by decide)
      obtain ⟨k1, k2⟩ := zIb.mk (b := b) (C := b.toInt - 228) (s := zsi σ 23 21 (σ.1 23 21 + b - 228)) (t := t14) h (zQ.wi zQ.rf rfl) (by rw [g14]; exact zQ.wi q12 rfl) (by rw [g14]; exact v12.v21 rn rfl) (by rw [g14, g12]; rfl) (by rw [g14, g12]; rfl) (by rw [g14, g12]; rfl) (by rw [g14, zsi_ej, e21, ts, tb]; omega)
      exact zp2_buu (hL b (B.1, B.2.1, B.2.2 + (b.toInt - 228)) _ _ hP k1 (k2.f hF) (k2.w hW)) (fun s t q => fin s t v11 (zIb.mono (B := (B.1, B.2.1 + 1, B.2.2 + (b.toInt - 228) + 228)) (C := B.2.1 + 1) (D := B.2.2 + 1) q.1 (Int.le_refl _) (by show B.2.2 + 1 ≤ B.2.2 + (b.toInt - 228) + 228; omega)) q.2.1 q.2.2)
  · have lt : σ.1 23 21 + b < 228 := z_nle c
    refine zp2_ifr (fun _ => ?_) (fun q => absurd lt q)
    refine zp2_bil (P := fun r => r = (zsi σ 23 21 (σ.1 23 21 + b), 0)) ?_ (fun s1 v1 e1 => ?_)
    · unfold fX9_passes
      refine zpc_ck (zpc_ck (zpc_bv (fun s1 f1 => zpc_ck ?_)))
      have d1 : zgi s1 23 (21 : Int32).toNatClampNeg = σ.1 23 21 + b := by rw [f1]; exact zsi_ej
      rw [d1]
      refine zpc_if (fun q => absurd q c) (fun _ => zpc_ck (zpc_some ?_))
      rw [f1]
      rfl
    · cases e1
      refine zp2_ifl (fun _ => ?_) (fun q => absurd rfl q)
      have rn : zr 0 227 (σ.1 23 21 + b) := zr_lt (k := 228) ra rfl lt
      obtain ⟨k1, k2⟩ := zIb.mk (b := b) (C := b.toInt) (s := zsi σ 23 21 (σ.1 23 21 + b)) (t := t13) h (zQ.wi zQ.rf rfl) (by rw [g13]; exact zQ.wi q12 rfl) (by rw [g13]; exact v12.v21 rn rfl) (by rw [g13, g12]; rfl) (by rw [g13, g12]; rfl) (by rw [g13, g12]; rfl) (by rw [g13, zsi_ej, e21, tb])
      exact fin _ _ v11 (zIb.mono (B := (B.1, B.2.1, B.2.2 + b.toInt)) (C := B.2.1 + 1) (D := B.2.2 + 1) k1 (by show B.2.1 ≤ B.2.1 + 1; omega) (by show B.2.2 + 1 ≤ B.2.2 + b.toInt; omega)) (k2.f hF) (k2.w hW)
/-- one step of both -/
theorem t_step (hL : zLe) (h : zTT (zIa B) σ μ) (hF : zF σ μ) (hW : zWzz σ μ) (hB : B.1 ≤ 1000000000000000) (hP : B.2.1 ≤ 1000000000000000) {Q : zSt × Int32 → zSt → Prop} {k15 : zSt → Int32 → Int64 → Int32 → Option (zSt × Int32)} {x1 x5 : Int32} {x3 : Int64} (k : ∀ s t, zTT (zIa (B.1 + 1, B.2.1 + 1, B.2.2 + 1)) s t → zF s t → zWzz s t → zp2 (zbv (x5 + 1) (fun v2 => k15 s x1 x3 v2)) (some t) Q) : zp2 (fX11_run_65 k15 σ x1 x3 x5 (σ.1 36 19)) (fX12_once μ ) Q := by
  unfold fX11_run_65 fX12_once
  refine t_note h hF hW hB (fun s t q1 q2 q3 => ?_)
  obtain ⟨a, hc, ha⟩ := t_asks q1.2.2.2.1
  refine zp2_bil hc (fun s1 v e => ?_)
  cases e
  refine t_once zIoK_a zPorts_a q1 q2 q3 ha (F := fun σ b => fX11_run_104 k15 σ x1 x3 x5 b) (fun s t b r1 r2 r3 rb => ?_)
  unfold fX11_run_104 fX11_run_120
  exact t_after (B := (B.1 + 1, B.2.1, B.2.2)) hL hP r1 r2 r3 rb k
end ZS1
end ZJN1
section ZJN2
/-! PLANS -/
theorem zg_347 : ∀ i : Fin 2, zGf 34 (7 + (Int32.ofNat i.val).toNatClampNeg) zGt = some (0, 63) := by decide +kernel
section ZPL
variable {σ μ s t : zSt} {B : Int × Int × Int}
/-- the reference's row of plans, moved down by one -/
theorem t_down {c : Int32} (hc : zr 0 255 c) {k0 : zSt → Option zSt} {O : Option zSt} {Q : zSt → zSt → Prop} {o : zSt} : ∀ (n : Nat) (μ : zSt) (x : Int32), zr 0 765 x → x.toInt ≤ 3 * c.toInt → μ.1 3 171 = c → (∀ k j : Nat, ¬ (k = 3 ∧ 280 ≤ j ∧ (j : Int) < 280 + x.toInt) → μ.1 k j = o.1 k j) → (∀ j : Nat, (j : Int) < x.toInt → μ.1 3 (280 + j) = o.1 3 (283 + j)) → μ.2 = o.2 → (∀ t : zSt, t.1 3 171 = c → (∀ k j : Nat, ¬ (k = 3 ∧ 280 ≤ j ∧ (j : Int) < 280 + 3 * c.toInt) → t.1 k j = o.1 k j) → (∀ j : Nat, (j : Int) < 3 * c.toInt → t.1 3 (280 + j) = o.1 3 (283 + j)) → t.2 = o.2 → zp2 O (k0 t) Q) → zp2 O (fX12_planned_68 k0 n μ x) Q := by
  intro n
  induction n with
  | zero => intro μ x _ _ _ _ _ _ _; exact zp2_nr
  | succ n ih =>
    intro μ x hx hx3 h171 hoff hin hl k
    show zp2 O (fX12_planned_68_body k0 (fX12_planned_68 k0 n) μ x) Q
    unfold fX12_planned_68_body
    have hc0 := hc.1
    have hc1 := hc.2
    have hx0 := hx.1
    have hx1 := hx.2
    have e171 : zgi μ 3 (171 : Int32).toNatClampNeg = c := h171
    rw [e171]
    have t3 : (3 * c).toInt = 3 * c.toInt := z_tmul (zr_c (lo := 3) (hi := 3) (x := 3) (by decide)) hc (by decide)
    refine zp2_ckr (zp2_ifr (fun q => ?_) (fun q => zp2_ckr (zp2_ckr (zp2_bvr (fun t e => zp2_bvr (fun v ev => ?_))))))
    · have q := Int32.le_iff_toInt_le.mp q
      rw [t3] at q
      have ex : x.toInt = 3 * c.toInt := by omega
      exact k μ h171 (fun kk j n => hoff kk j (by rw [ex]; exact n)) (fun j hj => hin j (by omega)) hl
    · have q := Int32.lt_iff_toInt_lt.mp (z_nle q)
      rw [t3] at q
      have kx := z_clamp hx.1
      have o1 : ((280 : Int32) + x).toNatClampNeg = 280 + x.toNatClampNeg := z_off hx (k := 280) rfl (by decide)
      have r1 : zr 280 1045 ((280 : Int32) + x) := zr_add (zr_c (lo := 280) (hi := 280) (x := 280) (by decide)) hx (by decide)
      have o2 : (((280 : Int32) + x) + 3).toNatClampNeg = 283 + x.toNatClampNeg := by
        have t1 := z_tadd (x := (280 : Int32)) (y := x) (zr_c (lo := 280) (hi := 280) (by decide)) hx (by decide)
        have t2 := z_tadd r1 (zr_c (lo := 3) (hi := 3) (x := 3) (by decide)) (by decide)
        have c3 : (3 : Int32).toInt = 3 := rfl
        have c280 : (280 : Int32).toInt = 280 := rfl
        have k1 := z_clamp (x := (280 : Int32) + x + 3) (by omega)
        omega
      rw [o1, o2] at e
      have ta : (x + 1).toInt = x.toInt + 1 := z_tadd hx (zr_c (lo := 1) (hi := 1) (x := 1) (by decide)) (by decide)
      subst ev
      have e : t = zsi μ 3 (280 + x.toNatClampNeg) (μ.1 3 (283 + x.toNatClampNeg)) := e
      refine ih t (x + 1) ⟨by omega, by omega⟩ (by omega) ?_ (fun kk j n => ?_) (fun j hj => ?_) ?_ k
      · rw [e, zsi_nj (by omega)]; exact h171
      · rw [e, zsi_at, if_neg (fun z => n ⟨z.1, by omega, by omega⟩)]
        exact hoff kk j (fun z => n ⟨z.1, z.2.1, by omega⟩)
      · rw [e]
        by_cases z : j = x.toNatClampNeg
        · subst z
          rw [zsi_ej]
          exact hoff 3 _ (fun z => by omega)
        · rw [zsi_nj (by omega)]
          exact hin j (by omega)
      · rw [e]; exact hl
theorem v_bit1 : ∀ i : Fin 2, Int32.ofNat i.val &&& 1 = Int32.ofNat i.val := by decide
/-- the ring's place -/
theorem z_ring {a : Int32} (h : zr 0 255 a) : (3 * ((a + 0) &&& 255)).toInt = 3 * a.toInt := by
  have e : a + 0 = a := Int32.add_zero a
  rw [e, z_m255 h]
  exact z_tmul (zr_c (lo := 3) (hi := 3) (x := 3) (by decide)) h (by decide)
theorem z_le0 {x : Int32} : x ≤ 0 ↔ ¬ 0 < x := ⟨fun q r => by have := Int32.le_iff_toInt_le.mp q; have := Int32.lt_iff_toInt_lt.mp r; omega, fun q => z_nlt q⟩
theorem t_plans {b : Int32} {v : Int64} : ∀ (n m : Nat) (σ μ : zSt) (x : Int32), zr 0 256 x → x.toInt + (μ.1 3 171).toInt ≤ 256 → v = μ.2 4 2 → zTT (zIb b B) σ μ → zF σ μ → zWzz σ μ → zp2 (fX1_carryOutPlans_3 n σ v x) (fX12_planned_0 m μ) (fun r r' => (zTT (zIb b B) r r' ∧ zF r r' ∧ zWzz r r') ∧ r'.1 3 66 = μ.1 3 66) := by
  intro n
  induction n with
  | zero => intro m σ μ x _ _ _ _ _ _; exact zp2_nl
  | succ n ih =>
    intro m σ μ x hx hc hv h hF hW
    cases m with
    | zero => exact zp2_nr
    | succ m =>
      show zp2 (fX1_carryOutPlans_3_body (fX1_carryOutPlans_3 n) σ v x) (fX12_planned_0_body (fX12_planned_0 m) μ) _
      unfold fX1_carryOutPlans_3_body fX12_planned_0_body fX1_carryOutPlans_107 fX12_planned_113
      obtain ⟨p1, p2, p3, p4, p5⟩ := h.2.2.2.2.1
      have hx0 := hx.1
      have hx1 := hx.2
      have c0 := p2.1
      have s0 := p3.1
      have s1 := p3.2
      have done : (zTT (zIb b B) σ μ ∧ zF σ μ ∧ zWzz σ μ) ∧ μ.1 3 66 = μ.1 3 66 := ⟨⟨h, hF, hW⟩, rfl⟩
      have e769 : zgi σ 42 (769 : Int32).toNatClampNeg = zgi μ 3 (171 : Int32).toNatClampNeg := p1
      have z0 : (0 : Int32).toInt = 0 := rfl
      by_cases cz : zgi μ 3 (171 : Int32).toNatClampNeg ≤ 0
      · refine zp2_ckr (zp2_ifr (fun _ => ?_) (fun q => absurd cz q))
        refine zp2_ifl (fun _ => zp2_some done) (fun _ => zp2_ckl ?_)
        rw [e769]
        exact zp2_ifl (fun _ => zp2_some done) (fun q => absurd cz q)
      · have cp : 1 ≤ (μ.1 3 171).toInt := by
          have : (0 : Int32).toInt < (μ.1 3 171).toInt := Int32.lt_iff_toInt_lt.mp (z_nle cz)
          omega
        have nx : ¬ 256 ≤ x := fun q => by
          have := Int32.le_iff_toInt_le.mp q
          have c : (256 : Int32).toInt = 256 := rfl
          omega
        refine zp2_ckr (zp2_ifr (fun q => absurd q cz) (fun _ => zp2_ckr (zp2_ckr ?_)))
        refine zp2_ifl (fun q => absurd q nx) (fun _ => zp2_ckl ?_)
        rw [e769]
        refine zp2_ifl (fun q => absurd q cz) (fun _ => ?_)
        have kst := z_clamp p3.1
        have tr : (3 * ((σ.1 42 768 + 0) &&& 255)).toInt = 3 * (σ.1 42 768).toInt := z_ring p3
        obtain ⟨w, ew⟩ : ∃ w, w = 3 * ((σ.1 42 768 + 0) &&& 255) := ⟨_, rfl⟩
        rw [← ew] at tr
        have rw0 : zr 0 765 w := ⟨by omega, by omega⟩
        have kw := z_clamp rw0.1
        have iw : w.toNatClampNeg = 3 * (σ.1 42 768).toNatClampNeg := by omega
        refine zp2_bil (P := fun r => r = (σ, w)) (by unfold fX1_placeOfPlan; exact zpc_ck (zpc_some (by rw [ew]; rfl))) (fun s2 v2 e2 => ?_)
        cases e2
        have w1 : (w + 1).toNatClampNeg = w.toNatClampNeg + 1 := by
          have ta := z_tadd rw0 (zr_c (lo := 1) (hi := 1) (x := 1) (by decide)) (by decide)
          have d1 : (1 : Int32).toInt = 1 := rfl
          have kk := z_clamp (x := w + 1) (by omega)
          omega
        have w2 : (w + 2).toNatClampNeg = w.toNatClampNeg + 2 := by
          have ta := z_tadd rw0 (zr_c (lo := 2) (hi := 2) (x := 2) (by decide)) (by decide)
          have d1 : (2 : Int32).toInt = 2 := rfl
          have kk := z_clamp (x := w + 2) (by omega)
          omega
        have md : ((σ.1 42 768).toNatClampNeg + 0) % 256 = (σ.1 42 768).toNatClampNeg := by omega
        have y0 : zgi σ 42 w.toNatClampNeg = zgi μ 3 (280 : Int32).toNatClampNeg := by
          have q := p4 0 0 (by omega) (by decide)
          rw [md] at q
          rw [iw]
          exact q
        have y1 : zgi σ 42 (w + 1).toNatClampNeg = zgi μ 3 (281 : Int32).toNatClampNeg := by
          have q := p4 0 1 (by omega) (by decide)
          rw [md] at q
          rw [w1, iw]
          exact q
        have y2 : zgi σ 42 (w + 2).toNatClampNeg = zgi μ 3 (282 : Int32).toNatClampNeg := by
          have q := p4 0 2 (by omega) (by decide)
          rw [md] at q
          rw [w2, iw]
          exact q
        obtain ⟨r1, r2, _⟩ := p5 0 (by omega)
        have r1 : zr 0 1 (zgi μ 3 (281 : Int32).toNatClampNeg) := r1
        have r2 : zr 0 63 (zgi μ 3 (282 : Int32).toNatClampNeg) := r2
        refine zp2_ckl ?_
        rw [y0, y1, y2]
        refine zp2_ifn (by rw [hv]; exact z_le0) (fun _ _ => ?_) (fun _ _ => zp2_some done)
        obtain ⟨P, eP⟩ : ∃ P, P = zgi μ 3 (281 : Int32).toNatClampNeg := ⟨_, rfl⟩
        obtain ⟨W, eW⟩ : ∃ W, W = zgi μ 3 (282 : Int32).toNatClampNeg := ⟨_, rfl⟩
        rw [← eP] at r1
        rw [← eW] at r2
        rw [← eP, ← eW]
        have mP : P &&& 1 = P := by
          obtain ⟨i, ei⟩ := z_F (m := 2) r1 (by decide)
          rw [ei]
          exact v_bit1 i
        have kP := z_clamp r1.1
        have P1 := r1.2
        have oC : (7 + (P &&& 1)).toNatClampNeg = 7 + P.toNatClampNeg := by rw [mP]; exact z_off r1 (k := 7) rfl (by decide)
        have oM : ((42 : Int32) + P).toNatClampNeg = 42 + P.toNatClampNeg := z_off r1 (k := 42) rfl (by decide)
        rw [oM]
        refine zp2_ckl (zp2_ckl (zp2_bul (P := fun r => r = zsi σ 34 (7 + P.toNatClampNeg) W) ?_ (fun s3 e3 => ?_)))
        · unfold fX4_holdButtons
          exact zpc_ck (zpc_bv (fun s4 e4 => zpc_some (by rw [e4, oC])))
        refine zp2_ckl (zp2_ckl (zp2_bvl (fun s4 e4 => zp2_ckl (zp2_ckl (zp2_bvl (fun s5 e5 => zp2_bvl (fun x6 e6 => ?_)))))))
        refine zp2_ckr (zp2_ckr (zp2_ckr (zp2_bvr (fun t3 g3 => zp2_ckr (zp2_ckr (zp2_bvr (fun t4 g4 => ?_)))))))
        subst e3
        have e4 : s4 = zsi (zsi σ 34 (7 + P.toNatClampNeg) W) 42 768 ((σ.1 42 768 + 1) &&& 255) := e4
        have e5 : s5 = zsi s4 42 769 (μ.1 3 171 - 1) := by rw [e5, show zgi s4 42 (769 : Int32).toNatClampNeg = μ.1 3 171 by rw [e4]; exact p1]; rfl
        have g4 : t4 = zsi (zsi μ 3 (42 + P.toNatClampNeg) W) 3 171 (μ.1 3 171 - 1) := by
          rw [g4, show zgi t3 3 (171 : Int32).toNatClampNeg = μ.1 3 171 by rw [g3]; show (zsi μ 3 (42 + P.toNatClampNeg) W).1 3 171 = _; rw [zsi_nj (by omega)], g3]
          rfl
        have c255 : zr 1 256 (μ.1 3 171) := ⟨cp, p2.2⟩
        have tc : (μ.1 3 171 - 1).toInt = (μ.1 3 171).toInt - 1 := z_tsub c255 (zr_c (lo := 1) (hi := 1) (x := 1) (by decide)) (by decide)
        have ts : (σ.1 42 768 + 1).toInt = (σ.1 42 768).toInt + 1 := z_tadd p3 (zr_c (lo := 1) (hi := 1) (x := 1) (by decide)) (by decide)
        have tm : ((σ.1 42 768 + 1) &&& 255).toInt = ((σ.1 42 768).toInt + 1) % 256 := by rw [z_mask (k := 8) (by omega) rfl (by decide), ts]; rfl
        have p2b := p2.2
        have tx : (x + 1).toInt = x.toInt + 1 := z_tadd hx (zr_c (lo := 1) (hi := 1) (x := 1) (by decide)) (by decide)
        subst e6
        refine t_down (c := μ.1 3 171 - 1) (o := t4) ⟨by omega, by omega⟩ zfuel t4 0 (zr_c (by decide)) (by rw [z0]; omega) (by rw [g4]; exact zsi_ej) (fun _ _ _ => rfl) (fun j hj => by rw [z0] at hj; omega) rfl (fun t q1 q2 q3 q4 => ?_)
        have a : zQ [34, 42] [] [] [] σ s5 := by rw [e5, e4]; exact zQ.wi (zQ.wi (zQ.wi zQ.rf rfl) rfl) rfl
        have a2 : zQ [42] [] [] [] (zsi σ 34 (7 + P.toNatClampNeg) W) s5 := by rw [e5, e4]; exact zQ.wi (zQ.wi zQ.rf rfl) rfl
        have sh : ∀ k j, zcv [] [(3, 171, 171), (3, 280, 1047)] k j = false → t.1 k j = t4.1 k j := fun k j z => by
          by_cases y : k = 3 ∧ 280 ≤ j ∧ (j : Int) < 280 + 3 * (μ.1 3 171 - 1).toInt
          · exfalso
            rw [y.1, zcv_m (a := 280) (b := 1047) (by decide) y.2.1 (by omega)] at z
            cases z
          · exact q2 k j y
        have b2 : zQ [] [(3, 171, 171), (3, 280, 1047)] [] [] (zsi μ 3 (42 + P.toNatClampNeg) W) t := by
          refine ⟨fun k j z => ?_, fun k j _ => by rw [q4, g4]; rfl⟩
          rw [sh k j z, g4, zsi_at, if_neg (fun y => ?_)]
          rw [y.1, y.2] at z
          exact absurd z (by decide)
        have bb : zQ [] [(3, 42, 43), (3, 171, 171), (3, 280, 1047)] [] [] μ t := (zQ.wi zQ.rf (zcv_m (a := 42) (b := 43) (by decide) (by omega) (by omega))).tr (b2.mono rfl rfl)
        have vv : zVe s5 t := by
          refine zVe.kp (h.2.2.2.1.w (z_pn34_7 (d := P.toNatClampNeg) (by omega)) rfl ?_ (by rw [z_an1])) a2 b2 (by decide +kernel) (by decide +kernel)
          obtain ⟨i, ei⟩ := z_F (m := 2) r1 (by decide)
          refine zGo.r (a := 0) (b := 63) ?_ r2
          rw [ei]
          exact zg_347 i
        have pl : zPlr s5 t := by
          have f768 : s5.1 42 768 = (σ.1 42 768 + 1) &&& 255 := by rw [e5, e4]; exact (zsi_nj (by decide)).trans zsi_ej
          have f171 : t.1 3 171 = μ.1 3 171 - 1 := q1
          have km := z_clamp (x := (σ.1 42 768 + 1) &&& 255) (by omega)
          have row : ∀ k r : Nat, (k : Int) < (μ.1 3 171 - 1).toInt → r < 3 → t.1 3 (280 + 3 * k + r) = μ.1 3 (280 + 3 * (k + 1) + r) := fun k r hk hr => by
            have z := q3 (3 * k + r) (by omega)
            rw [show 280 + 3 * k + r = 280 + (3 * k + r) by omega, z, g4, zsi_nj (by omega), zsi_nj (by omega), show 283 + (3 * k + r) = 280 + 3 * (k + 1) + r by omega]
          refine ⟨?_, ?_, ?_, fun k r hk hr => ?_, fun k hk => ?_⟩
          · rw [f171, e5]; exact zsi_ej
          · rw [f171]; exact ⟨by omega, by omega⟩
          · rw [f768]; exact z_r8 _
          · rw [f171] at hk
            rw [f768, row k r hk hr, e5, e4, zsi_nj (by omega), zsi_nj (by omega), zsi_ne (by decide), show ((((σ.1 42 768 + 1) &&& 255).toNatClampNeg + k) % 256) = (((σ.1 42 768).toNatClampNeg + (k + 1)) % 256) by omega]
            exact p4 (k + 1) r (by omega) hr
          · rw [f171] at hk
            rw [row k 1 hk (by decide), row k 2 hk (by decide), row k 0 hk (by decide)]
            exact p5 (k + 1) (by omega)
        have hI : zIb b B s5 t := by
          refine ⟨vv, pl, h.2.2.2.2.2.1.kp a bb rfl rfl rfl rfl, ?_, h.2.2.2.2.2.2.2.kp bb rfl rfl rfl⟩
          have zc := h.2.2.2.2.2.2.1
          unfold zCtb
          rw [a.rlo (k := 38) rfl, bb.rlo (k := 4) rfl]
          exact zc
        obtain ⟨k1, k2⟩ := h.kp hI a bb rfl rfl
        exact zp2_mono (ih m s5 t (x + 1) ⟨by omega, by omega⟩ (by rw [q1]; omega) (by rw [bb.rlo (k := 4) rfl]; exact hv) k1 (k2.f hF) (k2.w hW)) (fun r r' q => ⟨q.1, q.2.trans (bb.o (k := 3) (a := 66) (b := 66) rfl (by decide) (by decide))⟩)
end ZPL
end ZJN2
section ZJN3
/-! THE LINE'S END -/
/-- the painter of both, as it is wanted -/
noncomputable def zDr : Prop := ∀ s t : zSt, zVe s t → (s.1 23 20).toInt < (zht (s.1 23 0) (s.1 23 1)).toInt → zp2 (fX3_draw s ) (fX12_draws t (t.1 3 66)) (fun r r' => zVe r r' ∧ zQ [25, 27, 28, 29, 3] [(23, 15, 15)] [] [] s r ∧ zQ [22, 23, 24, 25, 9] [(3, 62, 62)] [] [] t r')
theorem zht_r (a b : Int32) : zr 192 240 (zht a b) := by
  unfold zht
  by_cases q1 : a &&& 4 = 0
  · rw [if_pos q1]; exact zr_c (by decide)
  · rw [if_neg q1]
    by_cases q2 : a &&& 2 = 0
    · rw [if_pos q2]; exact zr_c (by decide)
    · rw [if_neg q2]
      by_cases q3 : b &&& 16 = 0
      · rw [if_pos q3]
        by_cases q4 : b &&& 8 = 0
        · rw [if_pos q4]; exact zr_c (by decide)
        · rw [if_neg q4]; exact zr_c (by decide)
      · rw [if_neg q3]
        by_cases q4 : b &&& 8 = 0
        · rw [if_pos q4]; exact zr_c (by decide)
        · rw [if_neg q4]; exact zr_c (by decide)
section ZLE
variable {σ μ s t : zSt} {B : Int × Int × Int} {b : Int32}
noncomputable def zTl3 (b : Int32) (B : Int × Int × Int) (r r' : zSt) : Prop := zTT (zIb b B) r r' ∧ zF r r' ∧ zWzz r r'
theorem zTl3.ok (h : zTl3 b B σ μ) {C D : Int} (v : zVe s t) (a : zQ [23] [] [] [] σ s) (d : zQ [] [(3, 62, 66)] [] [] μ t) (h1 : B.2.1 ≤ C) (ms : zMs D t) : zTl3 b (B.1, C, D) s t := by
  obtain ⟨h, hF, hW⟩ := h
  have hI : zIb b (B.1, C, D) s t := by
    refine ⟨v, h.2.2.2.2.1.kp a d rfl rfl, h.2.2.2.2.2.1.kp a d rfl rfl rfl rfl, ?_, ms⟩
    obtain ⟨c0, c1, c2, c3, c4⟩ := h.2.2.2.2.2.2.1
    unfold zCtb
    rw [a.rlo (k := 38) rfl, d.rlo (k := 4) rfl]
    exact ⟨c0, c1, c2, c3, Int.le_trans c4 h1⟩
  obtain ⟨k1, k2⟩ := h.kp hI a d rfl rfl
  exact ⟨k1, k2.f hF, k2.w hW⟩
theorem zTl3.of (h : zTl3 b B σ μ) (v : zVe s t) (a : zQ [23] [] [] [] σ s) (d : zQ [] [(3, 62, 65)] [] [] μ t) : zTl3 b B s t := h.ok v a (d.mono rfl rfl) (Int.le_refl _) (h.1.2.2.2.2.2.2.2.kp d rfl rfl rfl)
theorem zTl3.up (h : zTl3 b B σ μ) {C D : Int} (h1 : B.2.1 ≤ C) (h2 : D ≤ B.2.2) : zTl3 b (B.1, C, D) σ μ := ⟨zIb.mono h.1 h1 h2, h.2⟩
theorem zTl3.m0 (h : zTl3 b B σ μ) : 0 ≤ (μ.2 4 2).toInt := h.1.2.2.2.2.2.2.1.2.2.2.1
theorem zTl3.v (h : zTl3 b B σ μ) : zVe σ μ := h.1.2.2.2.1
theorem zVe.v15 (h : zVe σ μ) {v w : Int32} (r : zr 0 255 v) (e : w = v) : zVe (zsi σ 23 15 v) (zsi μ 3 62 w) := h.w (z_pn23_0 (d := 15) (by decide)) rfl (zGo.r rfl r) (by rw [z_an1]; exact e)
theorem zVe.v16 (h : zVe σ μ) {v w : Int32} (r : zr 0 1 v) (e : w = v) : zVe (zsi σ 23 16 v) (zsi μ 3 63 w) := h.w (z_pn23_0 (d := 16) (by decide)) rfl (zGo.r rfl r) (by rw [z_an1]; exact e)
theorem zVe.v18 (h : zVe σ μ) {v w : Int32} (r : zr (-1) 255 v) (e : w = v) : zVe (zsi σ 23 18 v) (zsi μ 3 64 w) := h.w (z_pn23_18 (d := 0) (by decide)) rfl (zGo.r rfl r) (by rw [z_an1]; exact e)
theorem zVe.v19 (h : zVe σ μ) {v w : Int32} (r : zr 0 255 v) (e : w = v) : zVe (zsi σ 23 19 v) (zsi μ 3 65 w) := h.w (z_pn23_18 (d := 1) (by decide)) rfl (zGo.r rfl r) (by rw [z_an1]; exact e)
theorem zVe.v20 (h : zVe σ μ) {v w : Int32} (r : zr 0 312 v) (l : v.toInt < (σ.1 2 1).toInt) (e : w = v) : zVe (zsi σ 23 20 v) (zsi μ 3 66 w) := by
  refine ⟨h.1.wr (z_pn23_18 (d := 2) (by decide)) (by rw [z_an1]; exact e), h.2.1.w (zGo.r rfl r), h.2.2.1, ?_⟩
  show ((zsi σ 23 20 v).1 23 20).toInt < (σ.1 2 1).toInt
  rw [zsi_ej]
  exact l
theorem zVe.e18 (h : zVe σ μ) : μ.1 3 64 = σ.1 23 18 := h.1.e (z_pn23_18 (d := 0) (by decide))
theorem zp2_subr {α β : Type} {o : Option α} {p p' : Option β} {Q : α → β → Prop} (hs : zpc p (fun r => p' = some r)) (h : zp2 o p' Q) : zp2 o p Q := fun a b ea eb => h a b ea (hs b eb)
/-- the status at the line below the picture -/
theorem t_133 (h : zTl3 b B s t) {ht : Int32} : zp2 (zbi (fX9_goesToNextLine_133 s ht 0) (fun σ1 v2 => if v2 = 0 then fX11_endLine_62 σ1 else zbu (fX0_countPicture σ1 ) (fun σ3 => zbl (fX0_count σ3 2) (fun σ4 v5 => zbu (fX1_carryOutPlans σ4 v5) (fun σ6 => fX11_endLine_62 σ6))))) (fX12_ends_169 t ht) (zTl3 b B) := by
  have hv := h.v
  unfold fX9_goesToNextLine_133 fX9_goesToNextLine_159 fX12_ends_169 fX12_ends_195 fX11_endLine_62
  rw [z_ick]
  refine zp2_ckl (zp2_ckr ?_)
  have e20 : zgi t 3 (66 : Int32).toNatClampNeg = zgi s 23 (20 : Int32).toNatClampNeg := hv.e20
  have e15 : zgi t 3 (62 : Int32).toNatClampNeg = zgi s 23 (15 : Int32).toNatClampNeg := hv.e15
  have r15 : zr 0 255 (zgi s 23 (15 : Int32).toNatClampNeg) := hv.2.1.at (k := 23) (j := 15) rfl
  rw [e20]
  by_cases q : zgi s 23 (20 : Int32).toNatClampNeg = ht + 1
  · rw [if_pos q, if_pos q]
    refine zp2_bil (P := fun r => r = (zsi s 23 15 (zgi s 23 (15 : Int32).toNatClampNeg ||| 128), 0)) (zpc_ck (zpc_ck (zpc_bv (fun s1 f1 => zpc_ck (zpc_some (by rw [f1]; rfl)))))) (fun s1 v1 e1 => ?_)
    cases e1
    refine zp2_ckr (zp2_ckr (zp2_bvr (fun t1 g1 => ?_)))
    rw [e15] at g1
    refine zp2_ifl (fun _ => zp2_some ?_) (fun q => absurd rfl q)
    rw [g1]
    exact h.of (hv.v15 (zr_or (lo := 0) (hi := 255) 8 r15 (zr_c (lo := 128) (hi := 128) (x := 128) (by decide)) (by decide)) rfl) (zQ.wi zQ.rf rfl) (zQ.wi zQ.rf rfl)
  · rw [if_neg q, if_neg q]
    refine zp2_bil (P := fun r => r = (s, 0)) (zpc_ck (zpc_some rfl)) (fun s1 v1 e1 => ?_)
    cases e1
    exact zp2_ifl (fun _ => zp2_some h) (fun q => absurd rfl q)
/-- the next line -/
theorem t_76 (hP : B.2.1 ≤ 1000000000000000) (h : zTl3 b B s t) {ht : Int32} (hh : zr 192 240 ht) : zp2 (zbi (fX9_goesToNextLine_76 s ht) (fun σ1 v2 => if v2 = 0 then fX11_endLine_62 σ1 else zbu (fX0_countPicture σ1 ) (fun σ3 => zbl (fX0_count σ3 2) (fun σ4 v5 => zbu (fX1_carryOutPlans σ4 v5) (fun σ6 => fX11_endLine_62 σ6))))) (fX12_ends_96 t ht) (zTl3 b (B.1, B.2.1 + 1, B.2.2 + 228)) := by
  have hv := h.v
  have e20 : zgi t 3 (66 : Int32).toNatClampNeg = s.1 23 20 := hv.e20
  have r20 : zr 0 312 (s.1 23 20) := hv.2.1.at (k := 23) (j := 20) rfl
  have ta : (s.1 23 20 + 1).toInt = (s.1 23 20).toInt + 1 := z_tadd r20 (zr_c (lo := 1) (hi := 1) (x := 1) (by decide)) (by decide)
  obtain ⟨k0, k1, k2, k3, k4, k5⟩ := hv.2.2.1
  have ln : (s.1 23 20).toInt < (s.1 2 1).toInt := hv.2.2.2
  have h0 := hh.1
  have r0 := r20.1
  have r1 := r20.2
  -- how many lines
  obtain ⟨N, eN, rN⟩ : ∃ N : Int32, s.1 2 1 = N ∧ (t.1 0 3 = 1 → N = 313) ∧ (¬ t.1 0 3 = 1 → N = 262) := ⟨s.1 2 1, rfl, fun q => by rw [k5, if_pos q], fun q => by rw [k5, if_neg q]⟩
  unfold fX12_ends_96
  refine zp2_ckr (zp2_ckr (zp2_bvr (fun t1 g1 => zp2_ckr ?_)))
  rw [e20] at g1
  have g1 : t1 = zsi t 3 66 (s.1 23 20 + 1) := g1
  have c66 : zgi t1 3 (66 : Int32).toNatClampNeg = s.1 23 20 + 1 := by rw [g1]; exact zsi_ej
  have c03 : zgi t1 0 3 = t.1 0 3 := by rw [g1]; rfl
  rw [c66, c03]
  refine zp2_subr (p' := fX12_ends_131 t1 ht N (s.1 23 20 + 1)) (zpc_if (fun q => ?_) (fun q => ?_)) ?_
  · rw [rN.1 q]; exact fun r er => er
  · rw [rN.2 q]; exact fun r er => er
  unfold fX12_ends_131
  rw [eN] at ln
  by_cases w : s.1 23 20 + 1 = N
  · -- a new picture
    refine zp2_ifr (fun _ => zp2_ckr (zp2_bvr (fun t2 g2 => ?_))) (fun q => absurd w q)
    have g2 : t2 = zsi t 3 66 0 := by rw [g2, g1]; exact zsi_ow
    have hv2 : zVe (zsi s 23 20 0) t2 := by
      rw [g2]
      exact hv.v20 (zr_c (by decide)) (by rw [eN, show (0 : Int32).toInt = 0 from rfl]; omega) rfl
    have e9 : t2.1 3 56 = s.1 23 9 := hv2.e9
    have hv3 : zVe (zsi (zsi s 23 20 0) 23 19 (s.1 23 9)) (zsi t2 3 65 (s.1 23 9)) := hv2.v19 hv.r9 rfl
    have q67 : (zsi t2 3 65 (s.1 23 9)).1 3 67 = t.1 3 67 := by rw [g2]; rfl
    have q66 : (zsi t2 3 65 (s.1 23 9)).1 3 66 = 0 := by rw [g2]; rfl
    have q42 : (zsi t2 3 65 (s.1 23 9)).2 4 2 = t.2 4 2 := by rw [g2]; rfl
    have q03 : (zsi t2 3 65 (s.1 23 9)).1 0 3 = t.1 0 3 := by rw [g2]; rfl
    have b67 : 0 ≤ (t.1 3 67).toInt := by rw [hv.e21]; exact (hv.2.1.at (k := 23) (j := 21) rfl).1
    have p42 := h.m0
    have h3 : zTl3 b (B.1, B.2.1, 0) (zsi (zsi s 23 20 0) 23 19 (s.1 23 9)) (zsi t2 3 65 (s.1 23 9)) := by
      refine h.ok hv3 (zQ.wi (zQ.wi zQ.rf rfl) rfl) (by rw [g2]; exact zQ.wi (zQ.wi zQ.rf rfl) rfl) (Int.le_refl _) ?_
      unfold zMs zMt
      rw [q67, q66, q42, q03, show (0 : Int32).toInt = 0 from rfl]
      by_cases q : t.1 0 3 = 1
      · rw [if_pos q]; omega
      · rw [if_neg q]; omega
    have ms0 : zMs B.2.2 t := h.1.2.2.2.2.2.2.2
    refine zp2_bil (P := fun r => r = (zsi (zsi s 23 20 0) 23 19 (s.1 23 9), 1)) ?_ (fun s1 v1 e1 => ?_)
    · unfold fX9_goesToNextLine_76 fX9_goesToNextLine_106 fX9_goesToNextLine_133 fX9_goesToNextLine_159
      refine zpc_ck (zpc_ck (zpc_bv (fun s1 f1 => zpc_ck (zpc_if (fun q => ?_) (fun _ => zpc_if (fun q => absurd q (by decide)) (fun _ => zpc_ck (zpc_bv (fun s2 f2 => zpc_ck (zpc_ck (zpc_bv (fun s3 f3 => zpc_ck ?_)))))))))))
      · have q : s.1 23 20 + 1 < s.1 2 1 := by rw [f1] at q; exact q
        rw [w, eN] at q
        exact absurd q Int32.lt_irrefl
      · have f2 : s2 = zsi s 23 20 0 := by rw [f2, f1]; exact zsi_ow
        have f3 : s3 = zsi (zsi s 23 20 0) 23 19 (s.1 23 9) := by rw [f3, f2]; rfl
        refine zpc_if (fun q => ?_) (fun _ => zpc_ck (zpc_some (by rw [f3])))
        have q : (0 : Int32) = ht + 1 := by rw [f3] at q; exact q
        have tb := z_tadd hh (zr_c (lo := 1) (hi := 1) (x := 1) (by decide)) (by decide)
        rw [← q] at tb
        have d1 : (1 : Int32).toInt = 1 := rfl
        have d0 : (0 : Int32).toInt = 0 := rfl
        exfalso
        omega
    cases e1
    refine zp2_ifl (fun q => absurd q (by decide)) (fun _ => ?_)
    unfold fX12_reg
    refine zp2_bir (P := fun r => r = (t2, s.1 23 9)) (zpc_ck (zpc_some (by rw [← e9]; rfl))) (fun t3 v3 e3 => zp2_ckr (zp2_bvr (fun t5 g5 => zp2_ckr (zp2_ckr (zp2_bvr (fun t6 g6 => ?_))))))
    cases e3
    have g5 : t5 = zsi t2 3 65 (s.1 23 9) := g5
    subst g5
    have g6 : t6 = zsl (zsi t2 3 65 (s.1 23 9)) 4 2 ((zsi t2 3 65 (s.1 23 9)).2 4 2 + 1) := g6
    obtain ⟨S, eS⟩ : ∃ S, S = zsi (zsi s 23 20 0) 23 19 (s.1 23 9) := ⟨_, rfl⟩
    obtain ⟨T, eT⟩ : ∃ T, T = zsi t2 3 65 (s.1 23 9) := ⟨_, rfl⟩
    rw [← eS, ← eT] at h3
    rw [← eT] at g6
    rw [← eS]
    refine zp2_bul (P := fun r => r = zsl S 38 2 (S.2 38 2 + 1)) (by unfold fX0_countPicture; exact zpc_ck (zpc_ck (zpc_bv (fun s1 f1 => zpc_some f1)))) (fun S1 eS1 => ?_)
    obtain ⟨q1, qF, qW⟩ := h3
    have a4 : zQ [] [] [] [(38, 2, 2)] S S1 := by rw [eS1]; exact zQ.wl zQ.rf rfl
    have d4 : zQ [] [] [] [(4, 2, 2)] T t6 := by rw [g6]; exact zQ.wl zQ.rf rfl
    have hI : zIb b (B.1, B.2.1 + 1, B.2.2 + 228) S1 t6 := by
      obtain ⟨⟨c0, c1, c2, c3, c4⟩, ms⟩ := q1.2.2.2.2.2.2
      have en : (t6.2 4 2).toInt = (T.2 4 2).toInt + 1 := by
        rw [g6, zsl_at, if_pos ⟨rfl, rfl⟩]
        exact z_tladd (a := 0) (b := 1000000000000000) ⟨c3, by have : (T.2 4 2).toInt ≤ B.2.1 := c4; omega⟩ (zrl_c (lo := 1) (hi := 1) (x := 1) (by decide)) (by decide)
      refine ⟨q1.2.2.2.1.kp a4 d4 (by decide +kernel) (by decide +kernel), q1.2.2.2.2.1.kp a4 d4 rfl rfl, q1.2.2.2.2.2.1.kp a4 d4 rfl rfl rfl rfl, ⟨?_, ?_, ?_, ?_, ?_⟩, ?_⟩
      · rw [a4.lo (k := 38) (a := 0) (b := 1) rfl (j := 0) (by decide) (by decide), d4.lo (k := 4) (a := 0) (b := 1) rfl (j := 0) (by decide) (by decide)]; exact c0
      · rw [a4.lo (k := 38) (a := 0) (b := 1) rfl (j := 1) (by decide) (by decide), d4.lo (k := 4) (a := 0) (b := 1) rfl (j := 1) (by decide) (by decide)]; exact c1
      · rw [eS1, g6, zsl_at, zsl_at, if_pos ⟨rfl, rfl⟩, if_pos ⟨rfl, rfl⟩, c2]
      · rw [en]; omega
      · rw [en]; have : (T.2 4 2).toInt ≤ B.2.1 := c4; show (T.2 4 2).toInt + 1 ≤ B.2.1 + 1; omega
      · have x67 : t6.1 3 67 = t.1 3 67 := by rw [g6]; show T.1 3 67 = _; rw [eT]; exact q67
        have x66 : t6.1 3 66 = 0 := by rw [g6]; show T.1 3 66 = _; rw [eT]; exact q66
        have x03 : t6.1 0 3 = t.1 0 3 := by rw [g6]; show T.1 0 3 = _; rw [eT]; exact q03
        have xT : T.2 4 2 = t.2 4 2 := by rw [eT]; exact q42
        have z66 : t.1 3 66 = s.1 23 20 := hv.e20
        unfold zMs zMt at ms0 ⊢
        rw [x67, x66, x03, en, xT, show (0 : Int32).toInt = 0 from rfl]
        rw [z66] at ms0
        have wl : (s.1 23 20).toInt + 1 = N.toInt := by rw [← ta, w]
        show B.2.2 + 228 ≤ _
        by_cases q : t.1 0 3 = 1
        · rw [if_pos q] at ms0 ⊢
          rw [rN.1 q, show (313 : Int32).toInt = 313 from rfl] at wl
          omega
        · rw [if_neg q] at ms0 ⊢
          rw [rN.2 q, show (262 : Int32).toInt = 262 from rfl] at wl
          omega
    obtain ⟨z1, z2⟩ := q1.kp hI a4 d4 rfl rfl
    refine zp2_bll (P := fun r => r = (S1, S1.2 38 2)) ?_ (fun S2 v5 e5 => ?_)
    · unfold fX0_count fX0_count_20
      exact zpc_if (fun q => absurd q (by decide)) (fun _ => zpc_if (fun q => absurd q (by decide)) (fun _ => zpc_ck (zpc_some rfl)))
    cases e5
    unfold fX1_carryOutPlans fX11_endLine_62
    have e38 : S1.2 38 2 = t6.2 4 2 := hI.2.2.2.1.2.2.1.symm
    rw [e38]
    refine zp2_buu (t_plans zfuel zfuel S1 t6 0 (zr_c (by decide)) ?_ rfl z1 (z2.f qF) (z2.w qW)) (fun r r' q => ?_)
    · have := hI.2.1.2.1.2
      rw [show (0 : Int32).toInt = 0 from rfl]
      omega
    · -- the line is 0: no status
      unfold fX12_ends_169 fX12_ends_195
      refine zp2_ckr (zp2_ifr (fun z => ?_) (fun _ => zp2_some q.1))
      have y : r'.1 3 66 = 0 := by
        rw [q.2, g6]
        show T.1 3 66 = 0
        rw [eT, g2]
        rfl
      have z : r'.1 3 66 = ht + 1 := z
      rw [y] at z
      have tb := z_tadd hh (zr_c (lo := 1) (hi := 1) (x := 1) (by decide)) (by decide)
      rw [← z] at tb
      have d1 : (1 : Int32).toInt = 1 := rfl
      have d0 : (0 : Int32).toInt = 0 := rfl
      exfalso
      omega
  · refine zp2_ifr (fun q => absurd q w) (fun _ => ?_)
    have lt : s.1 23 20 + 1 < N := Int32.lt_iff_toInt_lt.mpr (by
      have : ¬ (s.1 23 20 + 1).toInt = N.toInt := fun q => w (Int32.toInt_inj.mp q)
      omega)
    have ltn := Int32.lt_iff_toInt_lt.mp lt
    have nb : N.toInt ≤ 313 := by
      by_cases q : t.1 0 3 = 1
      · rw [rN.1 q]; decide
      · rw [rN.2 q]; decide
    have hv2 : zVe (zsi s 23 20 (s.1 23 20 + 1)) t1 := by
      rw [g1]
      exact hv.v20 ⟨by omega, by omega⟩ (by rw [eN]; exact ltn) rfl
    have h2 : zTl3 b (B.1, B.2.1 + 1, B.2.2 + 228) (zsi s 23 20 (s.1 23 20 + 1)) t1 := by
      refine h.ok hv2 (zQ.wi zQ.rf rfl) (by rw [g1]; exact zQ.wi zQ.rf rfl) (by omega) ?_
      have ms0 : zMs B.2.2 t := h.1.2.2.2.2.2.2.2
      have z66 : t.1 3 66 = s.1 23 20 := hv.e20
      have x67 : t1.1 3 67 = t.1 3 67 := by rw [g1]; rfl
      have x66 : t1.1 3 66 = s.1 23 20 + 1 := by rw [g1]; exact zsi_ej
      have x03 : t1.1 0 3 = t.1 0 3 := by rw [g1]; rfl
      have x42 : t1.2 4 2 = t.2 4 2 := by rw [g1]; rfl
      unfold zMs zMt at ms0 ⊢
      rw [x67, x66, x03, x42, ta]
      rw [z66] at ms0
      omega
    refine zp2_sub (o' := fX9_goesToNextLine_133 (zsi s 23 20 (s.1 23 20 + 1)) ht 0) ?_ (t_133 h2)
    unfold fX9_goesToNextLine_76 fX9_goesToNextLine_106
    refine zpc_ck (zpc_ck (zpc_bv (fun s1 f1 => zpc_ck (zpc_if (fun _ => zpc_if (fun _ => ?_) (fun q => absurd rfl q)) (fun q => ?_)))))
    · have f1 : s1 = zsi s 23 20 (s.1 23 20 + 1) := f1
      rw [f1]
      exact fun r er => er
    · exfalso
      refine q ?_
      rw [f1]
      show s.1 23 20 + 1 < s.1 2 1
      rw [eN]
      exact lt
theorem t_26 (hP : B.2.1 ≤ 1000000000000000) (h : zTl3 b B s t) : zp2 (fX11_endLine_26 s ) (fX12_ends_27 t (zht (s.1 23 0) (s.1 23 1))) (zTl3 b (B.1, B.2.1 + 1, B.2.2 + 228)) := by
  have hv := h.v
  have hh := zht_r (s.1 23 0) (s.1 23 1)
  obtain ⟨ht, eh⟩ : ∃ ht, ht = zht (s.1 23 0) (s.1 23 1) := ⟨_, rfl⟩
  rw [← eh] at hh
  have pC : zpc (fX9_height s ) (fun r => r = (s, ht)) := by rw [eh]; exact p_heightC hv.r0 hv.r1
  rw [← eh]
  have e20 : zgi t 3 (66 : Int32).toNatClampNeg = zgi s 23 (20 : Int32).toNatClampNeg := hv.e20
  have e18 : zgi t 3 (64 : Int32).toNatClampNeg = zgi s 23 (18 : Int32).toNatClampNeg := hv.e18
  have e10 : t.1 3 57 = s.1 23 10 := hv.e10
  have r18 : zr (-1) 255 (s.1 23 18) := hv.2.1.at (k := 23) (j := 18) rfl
  unfold fX11_endLine_26 fX12_ends_27 fX12_reg
  refine zp2_ckr ?_
  rw [e20]
  by_cases q : zgi s 23 (20 : Int32).toNatClampNeg ≤ ht
  · have nq : ¬ ht < zgi s 23 (20 : Int32).toNatClampNeg := fun r => by have := Int32.le_iff_toInt_le.mp q; have := Int32.lt_iff_toInt_lt.mp r; omega
    refine zp2_ifr (fun r => absurd r nq) (fun _ => zp2_ckr (zp2_ckr (zp2_bvr (fun t1 g1 => zp2_ckr ?_))))
    rw [e18] at g1
    have c64 : zgi t1 3 (64 : Int32).toNatClampNeg = s.1 23 18 - 1 := by rw [g1]; exact zsi_ej
    rw [c64]
    by_cases p : 0 ≤ s.1 23 18 - 1
    · refine zp2_ifr (fun _ => ?_) (fun r => absurd p r)
      have ts : (s.1 23 18 - 1).toInt = (s.1 23 18).toInt - 1 ∨ True := Or.inr trivial
      have r18b : zr (-2) 254 (s.1 23 18 - 1) := zr_sub r18 (zr_c (lo := 1) (hi := 1) (x := 1) (by decide)) (by decide)
      have h1 : zTl3 b B (zsi s 23 18 (s.1 23 18 - 1)) t1 := by
        rw [g1]
        exact h.of (hv.v18 ⟨by have := Int32.le_iff_toInt_le.mp p; have c : (0 : Int32).toInt = 0 := rfl; omega, by have := r18b.2; omega⟩ rfl) (zQ.wi zQ.rf rfl) (zQ.wi zQ.rf rfl)
      refine zp2_sub (o' := fX9_goesToNextLine_76 (zsi s 23 18 (s.1 23 18 - 1)) ht) ?_ (t_76 hP h1 hh)
      unfold fX9_goesToNextLine
      refine zpc_bi pC (fun s1 v1 e1 => ?_)
      cases e1
      refine zpc_ck (zpc_if (fun _ => zpc_ck (zpc_ck (zpc_bv (fun s2 f2 => zpc_ck (zpc_if (fun _ => ?_) (fun r => ?_)))))) (fun r => absurd q r))
      · have f2 : s2 = zsi s 23 18 (s.1 23 18 - 1) := f2
        rw [f2]
        exact fun r er => er
      · exfalso
        refine r ?_
        rw [f2]
        show 0 ≤ (zsi s 23 18 (s.1 23 18 - 1)).1 23 18
        rw [zsi_ej]
        exact p
    · refine zp2_ifr (fun r => absurd r p) (fun _ => ?_)
      refine zp2_bir (P := fun r => r = (t1, s.1 23 10)) (zpc_ck (zpc_some (by rw [g1, ← e10]; rfl))) (fun t2 v2 e2 => zp2_ckr (zp2_bvr (fun t3 g3 => zp2_ckr (zp2_bvr (fun t4 g4 => ?_)))))
      cases e2
      have g3 : t3 = zsi t 3 64 (s.1 23 10) := by rw [g3, g1]; exact zsi_ow
      have r10 := hv.r10
      have h1 : zTl3 b B (zsi (zsi s 23 18 (s.1 23 10)) 23 16 1) t4 := by
        rw [g4, g3]
        exact h.of ((hv.v18 (zr_w r10 (by decide)) rfl).v16 (zr_c (by decide)) rfl) (zQ.wi (zQ.wi zQ.rf rfl) rfl) (zQ.wi (zQ.wi zQ.rf rfl) rfl)
      refine zp2_sub (o' := fX9_goesToNextLine_76 (zsi (zsi s 23 18 (s.1 23 10)) 23 16 1) ht) ?_ (t_76 hP h1 hh)
      unfold fX9_goesToNextLine
      refine zpc_bi pC (fun s1 v1 e1 => ?_)
      cases e1
      refine zpc_ck (zpc_if (fun _ => zpc_ck (zpc_ck (zpc_bv (fun s2 f2 => zpc_ck (zpc_if (fun r => ?_) (fun _ => zpc_ck (zpc_ck (zpc_bv (fun s3 f3 => zpc_ck (zpc_bv (fun s4 f4 => ?_))))))))))) (fun r => absurd q r))
      · exfalso
        refine p ?_
        rw [f2] at r
        have r : 0 ≤ (zsi s 23 18 (s.1 23 18 - 1)).1 23 18 := r
        rw [zsi_ej] at r
        exact r
      · have f3 : s3 = zsi s 23 18 (s.1 23 10) := by
          rw [f3, f2]
          exact zsi_ow
        have f4 : s4 = zsi (zsi s 23 18 (s.1 23 10)) 23 16 1 := by rw [f4, f3]; rfl
        rw [f4]
        exact fun r er => er
  · have lt : ht < zgi s 23 (20 : Int32).toNatClampNeg := z_nle q
    refine zp2_ifr (fun _ => ?_) (fun r => absurd lt r)
    refine zp2_bir (P := fun r => r = (t, s.1 23 10)) (zpc_ck (zpc_some (by rw [← e10]; rfl))) (fun t2 v2 e2 => zp2_ckr (zp2_bvr (fun t3 g3 => ?_)))
    cases e2
    have g3 : t3 = zsi t 3 64 (s.1 23 10) := g3
    have h1 : zTl3 b B (zsi s 23 18 (s.1 23 10)) t3 := by
      rw [g3]
      exact h.of (hv.v18 (zr_w hv.r10 (by decide)) rfl) (zQ.wi zQ.rf rfl) (zQ.wi zQ.rf rfl)
    refine zp2_sub (o' := fX9_goesToNextLine_76 (zsi s 23 18 (s.1 23 10)) ht) ?_ (t_76 hP h1 hh)
    unfold fX9_goesToNextLine
    refine zpc_bi pC (fun s1 v1 e1 => ?_)
    cases e1
    refine zpc_ck (zpc_if (fun r => absurd r q) (fun _ => zpc_ck (zpc_ck (zpc_bv (fun s2 f2 => ?_)))))
    have f2 : s2 = zsi s 23 18 (s.1 23 10) := f2
    rw [f2]
    exact fun r er => er
theorem zLe_of (hD : zDr) : zLe := fun b B s t hP h hF hW => by
  have h3 : zTl3 b B s t := ⟨h, hF, hW⟩
  have hv := h3.v
  unfold fX11_endLine fX12_ends
  refine zp2_bil (P := fun r => r = (s, s.1 23 20)) ?_ (fun s1 v1 e1 => ?_)
  · unfold fX9_held fX9_held_20
    exact zpc_if (fun q => absurd q (by decide)) (fun _ => zpc_if (fun q => absurd q (by decide)) (fun _ => zpc_ck (zpc_some rfl)))
  cases e1
  refine zp2_bil (p_heightC hv.r0 hv.r1) (fun s2 v2 e2 => ?_)
  cases e2
  have pM := p_heightM (μ := t) (by rw [hv.e0]; exact hv.r0) (by rw [hv.e1]; exact hv.r1)
  rw [hv.e0, hv.e1] at pM
  refine zp2_bir pM (fun t2 v2 e2 => zp2_ckr ?_)
  cases e2
  have e20 : zgi t 3 (66 : Int32).toNatClampNeg = s.1 23 20 := hv.e20
  rw [e20]
  refine zp2_if (fun _ => t_26 hP h3) (fun q => zp2_ckr ?_)
  have lt := Int32.lt_iff_toInt_lt.mp (z_nle q)
  have d := hD s t hv lt
  rw [hv.e20] at d
  refine zp2_buu d (fun r r' q => ?_)
  obtain ⟨q1, q2, q3⟩ := q
  have hI : zIb b B r r' := by
    refine ⟨q1, h.2.2.2.2.1.kp q2 q3 rfl rfl, h.2.2.2.2.2.1.kp q2 q3 rfl rfl rfl rfl, ?_, h.2.2.2.2.2.2.2.kp q3 rfl rfl rfl⟩
    unfold zCtb
    rw [q2.rlo (k := 38) rfl, q3.rlo (k := 4) rfl]
    exact h.2.2.2.2.2.2.1
  obtain ⟨k1, k2⟩ := h.kp hI q2 q3 rfl rfl
  have h4 : zTl3 b B r r' := ⟨k1, k2.f hF, k2.w hW⟩
  have z := t_26 hP h4
  rw [q2.o (k := 23) (a := 0) (b := 1) rfl (j := 0) (by decide) (by decide), q2.o (k := 23) (a := 0) (b := 1) rfl (j := 1) (by decide) (by decide)] at z
  exact z
end ZLE
end ZJN3
