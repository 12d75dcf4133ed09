theorem fp_fX7_moveTone_57 {σ0 : zSt} {σ : zSt} {x1 : Int32} {x2 : Int32} (h : (zQ [30, 32, 5, 11, 12] [] [5, 46, 48] [(38, 0, 1), (38, 3, 6)]) σ0 σ) : zpc (fX7_moveTone_57 σ x1 x2) (fun r => (zQ [30, 32, 5, 11, 12] [] [5, 46, 48] [(38, 0, 1), (38, 3, 6)]) σ0 (r)) := by
  unfold fX7_moveTone_57
  exact zpc_ck (zpc_bs (zQ.wi h rfl) (fun σ1 hσ1 => zpc_some hσ1))
theorem fp_fX7_moveTone_56 {σ0 : zSt} {σ : zSt} {x1 : Int32} {x2 : Int32} {s0 : Int32} {s1 : Int32} (h : (zQ [30, 32, 5, 11, 12] [] [5, 46, 48] [(38, 0, 1), (38, 3, 6)]) σ0 σ) : zpc (fX7_moveTone_56 σ x1 x2 s0 s1) (fun r => (zQ [30, 32, 5, 11, 12] [] [5, 46, 48] [(38, 0, 1), (38, 3, 6)]) σ0 (r)) := by
  unfold fX7_moveTone_56
  exact zpc_ck (zpc_bs (zQ.wi h rfl) (fun σ2 hσ2 => fp_fX7_moveTone_57 hσ2))
theorem fp_fX7_moveTone {σ0 : zSt} {σ : zSt} {x1 : Int32} (h : (zQ [30, 32, 5, 11, 12] [] [5, 46, 48] [(38, 0, 1), (38, 3, 6)]) σ0 σ) : zpc (fX7_moveTone σ x1) (fun r => (zQ [30, 32, 5, 11, 12] [] [5, 46, 48] [(38, 0, 1), (38, 3, 6)]) σ0 (r)) := by
  unfold fX7_moveTone
  exact zpc_ck (zpc_bv (fun v3 _ => zpc_if (fun _ => zpc_ck (zpc_bv (fun v4 _ => zpc_if (fun _ => zpc_ck (fp_fX7_moveTone_56 h)) (fun _ => fp_fX7_moveTone_56 h)))) (fun _ => fp_fX7_moveTone_57 h)))
theorem fp_fX7_moveNoise_136 {σ0 : zSt} {σ : zSt} (h : (zQ [30, 32, 5, 11, 12] [] [5, 46, 48] [(38, 0, 1), (38, 3, 6)]) σ0 σ) : zpc (fX7_moveNoise_136 σ) (fun r => (zQ [30, 32, 5, 11, 12] [] [5, 46, 48] [(38, 0, 1), (38, 3, 6)]) σ0 (r)) := by
  unfold fX7_moveNoise_136
  exact zpc_some h
theorem fp_fX7_moveNoise_120 {σ0 : zSt} {σ : zSt} {x2 : Int32} {s0 : Int32} (h : (zQ [30, 32, 5, 11, 12] [] [5, 46, 48] [(38, 0, 1), (38, 3, 6)]) σ0 σ) : zpc (fX7_moveNoise_120 σ x2 s0) (fun r => (zQ [30, 32, 5, 11, 12] [] [5, 46, 48] [(38, 0, 1), (38, 3, 6)]) σ0 (r)) := by
  unfold fX7_moveNoise_120
  exact zpc_ck (zpc_bs (zQ.wi h rfl) (fun σ1 hσ1 => fp_fX7_moveNoise_136 hσ1))
theorem fp_fX7_moveNoise_65 {σ0 : zSt} {σ : zSt} {s0 : Int32} {s1 : Int32} (h : (zQ [30, 32, 5, 11, 12] [] [5, 46, 48] [(38, 0, 1), (38, 3, 6)]) σ0 σ) : zpc (fX7_moveNoise_65 σ s0 s1) (fun r => (zQ [30, 32, 5, 11, 12] [] [5, 46, 48] [(38, 0, 1), (38, 3, 6)]) σ0 (r)) := by
  unfold fX7_moveNoise_65
  exact zpc_ck (zpc_bs (zQ.wi h rfl) (fun σ2 hσ2 => zpc_ck (zpc_ck (zpc_bs (zQ.wi hσ2 rfl) (fun σ3 hσ3 => zpc_ck (zpc_if (fun _ => zpc_ck (zpc_bv (fun v4 _ => zpc_ck (zpc_if (fun _ => fp_fX7_moveNoise_120 hσ3) (fun _ => fp_fX7_moveNoise_120 hσ3))))) (fun _ => fp_fX7_moveNoise_136 hσ3)))))))
theorem fp_fX7_moveNoise {σ0 : zSt} {σ : zSt} (h : (zQ [30, 32, 5, 11, 12] [] [5, 46, 48] [(38, 0, 1), (38, 3, 6)]) σ0 σ) : zpc (fX7_moveNoise σ) (fun r => (zQ [30, 32, 5, 11, 12] [] [5, 46, 48] [(38, 0, 1), (38, 3, 6)]) σ0 (r)) := by
  unfold fX7_moveNoise
  exact zpc_ck (zpc_ck (zpc_bs (zQ.wi h rfl) (fun σ5 hσ5 => zpc_ck (zpc_if (fun _ => zpc_ck (zpc_bv (fun v6 _ => zpc_if (fun _ => zpc_ck (fp_fX7_moveNoise_65 hσ5)) (fun _ => fp_fX7_moveNoise_65 hσ5)))) (fun _ => zpc_some hσ5)))))
theorem fp_fX7_nextSample_87 {σ0 : zSt} {k28 : zSt → Int32 → Int32 → Int32 → Option (zSt × Int32)} (hk28 : ∀ (y0 : zSt) (y1 : Int32) (y2 : Int32) (y3 : Int32), (zQ [30, 32, 5, 11, 12] [] [5, 46, 48] [(38, 0, 1), (38, 3, 6)]) σ0 y0 → zpc (k28 y0 y1 y2 y3) (fun r => (zQ [30, 32, 5, 11, 12] [] [5, 46, 48] [(38, 0, 1), (38, 3, 6)]) σ0 (r.1))) {σ : zSt} {x1 : Int32} {x2 : Int32} {x3 : Int32} {s0 : Int32} (h : (zQ [30, 32, 5, 11, 12] [] [5, 46, 48] [(38, 0, 1), (38, 3, 6)]) σ0 σ) : zpc (fX7_nextSample_87 k28 σ x1 x2 x3 s0) (fun r => (zQ [30, 32, 5, 11, 12] [] [5, 46, 48] [(38, 0, 1), (38, 3, 6)]) σ0 (r.1)) := by
  unfold fX7_nextSample_87
  exact zpc_ck (zpc_bv (fun v1 _ => zpc_ck (zpc_bv (fun v2 _ => zpc_bv (fun v3 _ => hk28 _ _ _ _ h)))))
theorem fp_fX7_nextSample_59 {σ0 : zSt} {k28 : zSt → Int32 → Int32 → Int32 → Option (zSt × Int32)} (hk28 : ∀ (y0 : zSt) (y1 : Int32) (y2 : Int32) (y3 : Int32), (zQ [30, 32, 5, 11, 12] [] [5, 46, 48] [(38, 0, 1), (38, 3, 6)]) σ0 y0 → zpc (k28 y0 y1 y2 y3) (fun r => (zQ [30, 32, 5, 11, 12] [] [5, 46, 48] [(38, 0, 1), (38, 3, 6)]) σ0 (r.1))) {σ : zSt} {x1 : Int32} {x2 : Int32} {x3 : Int32} {s0 : Int32} (h : (zQ [30, 32, 5, 11, 12] [] [5, 46, 48] [(38, 0, 1), (38, 3, 6)]) σ0 σ) : zpc (fX7_nextSample_59 k28 σ x1 x2 x3 s0) (fun r => (zQ [30, 32, 5, 11, 12] [] [5, 46, 48] [(38, 0, 1), (38, 3, 6)]) σ0 (r.1)) := by
  unfold fX7_nextSample_59
  exact zpc_if (fun _ => zpc_ck (zpc_ck (fp_fX7_nextSample_87 hk28 h))) (fun _ => fp_fX7_nextSample_87 hk28 h)
theorem fp_fX7_nextSample_28_body {σ0 : zSt} {k28 : zSt → Int32 → Int32 → Int32 → Option (zSt × Int32)} (hk28 : ∀ (y0 : zSt) (y1 : Int32) (y2 : Int32) (y3 : Int32), (zQ [30, 32, 5, 11, 12] [] [5, 46, 48] [(38, 0, 1), (38, 3, 6)]) σ0 y0 → zpc (k28 y0 y1 y2 y3) (fun r => (zQ [30, 32, 5, 11, 12] [] [5, 46, 48] [(38, 0, 1), (38, 3, 6)]) σ0 (r.1))) {σ : zSt} {x1 : Int32} {x2 : Int32} {x3 : Int32} (h : (zQ [30, 32, 5, 11, 12] [] [5, 46, 48] [(38, 0, 1), (38, 3, 6)]) σ0 σ) : zpc (fX7_nextSample_28_body k28 σ x1 x2 x3) (fun r => (zQ [30, 32, 5, 11, 12] [] [5, 46, 48] [(38, 0, 1), (38, 3, 6)]) σ0 (r.1)) := by
  unfold fX7_nextSample_28_body
  exact zpc_if (fun _ => zpc_some h) (fun _ => zpc_if (fun _ => zpc_ck (fp_fX7_nextSample_59 hk28 h)) (fun _ => zpc_ck (fp_fX7_nextSample_59 hk28 h)))
theorem fp_fX7_nextSample_28 {σ0 : zSt} : ∀ (n : Nat) (y0 : zSt) (y1 : Int32) (y2 : Int32) (y3 : Int32), (zQ [30, 32, 5, 11, 12] [] [5, 46, 48] [(38, 0, 1), (38, 3, 6)]) σ0 y0 → zpc (fX7_nextSample_28 n y0 y1 y2 y3) (fun r => (zQ [30, 32, 5, 11, 12] [] [5, 46, 48] [(38, 0, 1), (38, 3, 6)]) σ0 (r.1)) := by
  intro n
  induction n with
  | zero => intro y0 y1 y2 y3 h; exact zpc_none
  | succ n ih => intro y0 y1 y2 y3 h; exact fp_fX7_nextSample_28_body ih h
theorem fp_fX7_nextSample_2_body {σ0 : zSt} {k2 : zSt → Int32 → Option (zSt × Int32)} (hk2 : ∀ (y0 : zSt) (y1 : Int32), (zQ [30, 32, 5, 11, 12] [] [5, 46, 48] [(38, 0, 1), (38, 3, 6)]) σ0 y0 → zpc (k2 y0 y1) (fun r => (zQ [30, 32, 5, 11, 12] [] [5, 46, 48] [(38, 0, 1), (38, 3, 6)]) σ0 (r.1))) {σ : zSt} {x1 : Int32} (h : (zQ [30, 32, 5, 11, 12] [] [5, 46, 48] [(38, 0, 1), (38, 3, 6)]) σ0 σ) : zpc (fX7_nextSample_2_body k2 σ x1) (fun r => (zQ [30, 32, 5, 11, 12] [] [5, 46, 48] [(38, 0, 1), (38, 3, 6)]) σ0 (r.1)) := by
  unfold fX7_nextSample_2_body
  exact zpc_if (fun _ => zpc_bu (fp_fX7_moveNoise h) (fun σ4 hσ4 => fp_fX7_nextSample_28 _ _ _ _ _ hσ4)) (fun _ => zpc_bu (fp_fX7_moveTone h) (fun σ5 hσ5 => zpc_bv (fun v6 _ => hk2 _ _ hσ5)))
theorem fp_fX7_nextSample_2 {σ0 : zSt} : ∀ (n : Nat) (y0 : zSt) (y1 : Int32), (zQ [30, 32, 5, 11, 12] [] [5, 46, 48] [(38, 0, 1), (38, 3, 6)]) σ0 y0 → zpc (fX7_nextSample_2 n y0 y1) (fun r => (zQ [30, 32, 5, 11, 12] [] [5, 46, 48] [(38, 0, 1), (38, 3, 6)]) σ0 (r.1)) := by
  intro n
  induction n with
  | zero => intro y0 y1 h; exact zpc_none
  | succ n ih => intro y0 y1 h; exact fp_fX7_nextSample_2_body ih h
theorem fp_fX7_nextSample {σ0 : zSt} {σ : zSt} (h : (zQ [30, 32, 5, 11, 12] [] [5, 46, 48] [(38, 0, 1), (38, 3, 6)]) σ0 σ) : zpc (fX7_nextSample σ) (fun r => (zQ [30, 32, 5, 11, 12] [] [5, 46, 48] [(38, 0, 1), (38, 3, 6)]) σ0 (r.1)) := by
  unfold fX7_nextSample
  exact fp_fX7_nextSample_2 _ _ _ h
theorem fp_fX6_add_k11_56 {σ0 : zSt} {σ : zSt} (h : (zQ [30, 32, 5, 11, 12] [] [5, 46, 48] [(38, 0, 1), (38, 3, 6)]) σ0 σ) : zpc (fX6_add_k11_56 σ) (fun r => (zQ [30, 32, 5, 11, 12] [] [5, 46, 48] [(38, 0, 1), (38, 3, 6)]) σ0 (r)) := by
  unfold fX6_add_k11_56
  exact zpc_some h
theorem fp_fX6_add_k11 {σ0 : zSt} {σ : zSt} {x1 : Int64} (h : (zQ [30, 32, 5, 11, 12] [] [5, 46, 48] [(38, 0, 1), (38, 3, 6)]) σ0 σ) : zpc (fX6_add_k11 σ x1) (fun r => (zQ [30, 32, 5, 11, 12] [] [5, 46, 48] [(38, 0, 1), (38, 3, 6)]) σ0 (r)) := by
  unfold fX6_add_k11
  exact zpc_ck (zpc_bs (zQ.wl h rfl) (fun σ1 hσ1 => zpc_if (fun _ => zpc_bs (zQ.wi hσ1 rfl) (fun σ2 hσ2 => fp_fX6_add_k11_56 hσ2)) (fun _ => zpc_bs (zQ.wi hσ1 rfl) (fun σ3 hσ3 => fp_fX6_add_k11_56 hσ3))))
theorem fp_fX0_addSample {σ0 : zSt} {σ : zSt} (h : (zQ [30, 32, 5, 11, 12] [] [5, 46, 48] [(38, 0, 1), (38, 3, 6)]) σ0 σ) : zpc (fX0_addSample σ) (fun r => (zQ [30, 32, 5, 11, 12] [] [5, 46, 48] [(38, 0, 1), (38, 3, 6)]) σ0 (r)) := by
  unfold fX0_addSample
  exact zpc_bi (fp_fX7_nextSample h) (fun σ1 v2 hσ1 => zpc_bu (fp_fX6_add_k11 hσ1) (fun σ3 hσ3 => zpc_ck (zpc_ck (zpc_bs (zQ.wl hσ3 rfl) (fun σ4 hσ4 => zpc_ck (zpc_ck (zpc_bs (zQ.wl hσ4 rfl) (fun σ5 hσ5 => zpc_ck (zpc_ck (zpc_bs (zQ.wl hσ5 rfl) (fun σ6 hσ6 => zpc_ck (zpc_ck (zpc_bs (zQ.wl hσ6 rfl) (fun σ7 hσ7 => zpc_some hσ7))))))))))))))
theorem fp_fX10_takeOwnPatch_7_body {σ0 : zSt} {k7 : zSt → Int32 → Option (zSt)} (hk7 : ∀ (y0 : zSt) (y1 : Int32), (zQ [30, 32, 5, 11, 12] [] [5, 46, 48] [(38, 0, 1), (38, 3, 6)]) σ0 y0 → zpc (k7 y0 y1) (fun r => (zQ [30, 32, 5, 11, 12] [] [5, 46, 48] [(38, 0, 1), (38, 3, 6)]) σ0 (r))) {σ : zSt} {x1 : Int32} (h : (zQ [30, 32, 5, 11, 12] [] [5, 46, 48] [(38, 0, 1), (38, 3, 6)]) σ0 σ) : zpc (fX10_takeOwnPatch_7_body k7 σ x1) (fun r => (zQ [30, 32, 5, 11, 12] [] [5, 46, 48] [(38, 0, 1), (38, 3, 6)]) σ0 (r)) := by
  unfold fX10_takeOwnPatch_7_body
  exact zpc_if (fun _ => zpc_some h) (fun _ => zpc_ck (zpc_bs (zQ.wl h rfl) (fun σ1 hσ1 => zpc_bv (fun v2 _ => hk7 _ _ hσ1))))
theorem fp_fX10_takeOwnPatch_7 {σ0 : zSt} : ∀ (n : Nat) (y0 : zSt) (y1 : Int32), (zQ [30, 32, 5, 11, 12] [] [5, 46, 48] [(38, 0, 1), (38, 3, 6)]) σ0 y0 → zpc (fX10_takeOwnPatch_7 n y0 y1) (fun r => (zQ [30, 32, 5, 11, 12] [] [5, 46, 48] [(38, 0, 1), (38, 3, 6)]) σ0 (r)) := by
  intro n
  induction n with
  | zero => intro y0 y1 h; exact zpc_none
  | succ n ih => intro y0 y1 h; exact fp_fX10_takeOwnPatch_7_body ih h
theorem fp_fX10_takeOwnPatch {σ0 : zSt} {σ : zSt} (h : (zQ [30, 32, 5, 11, 12] [] [5, 46, 48] [(38, 0, 1), (38, 3, 6)]) σ0 σ) : zpc (fX10_takeOwnPatch σ) (fun r => (zQ [30, 32, 5, 11, 12] [] [5, 46, 48] [(38, 0, 1), (38, 3, 6)]) σ0 (r)) := by
  unfold fX10_takeOwnPatch
  exact zpc_bs (zQ.wl h rfl) (fun σ3 hσ3 => fp_fX10_takeOwnPatch_7 _ _ _ hσ3)
theorem fp_fX10_takeChannel_110 {σ0 : zSt} {σ : zSt} {s0 : Int64} (h : (zQ [30, 32, 5, 11, 12] [] [5, 46, 48] [(38, 0, 1), (38, 3, 6)]) σ0 σ) : zpc (fX10_takeChannel_110 σ s0) (fun r => (zQ [30, 32, 5, 11, 12] [] [5, 46, 48] [(38, 0, 1), (38, 3, 6)]) σ0 (r)) := by
  unfold fX10_takeChannel_110
  exact zpc_bs (zQ.wl h rfl) (fun σ1 hσ1 => zpc_some hσ1)
theorem fp_fX10_takeChannel_106 {σ0 : zSt} {σ : zSt} (h : (zQ [30, 32, 5, 11, 12] [] [5, 46, 48] [(38, 0, 1), (38, 3, 6)]) σ0 σ) : zpc (fX10_takeChannel_106 σ) (fun r => (zQ [30, 32, 5, 11, 12] [] [5, 46, 48] [(38, 0, 1), (38, 3, 6)]) σ0 (r)) := by
  unfold fX10_takeChannel_106
  exact fp_fX10_takeChannel_110 h
theorem fp_fX10_takeChannel_82 {σ0 : zSt} {σ : zSt} {s0 : Int32} (h : (zQ [30, 32, 5, 11, 12] [] [5, 46, 48] [(38, 0, 1), (38, 3, 6)]) σ0 σ) : zpc (fX10_takeChannel_82 σ s0) (fun r => (zQ [30, 32, 5, 11, 12] [] [5, 46, 48] [(38, 0, 1), (38, 3, 6)]) σ0 (r)) := by
  unfold fX10_takeChannel_82
  exact zpc_if (fun _ => fp_fX10_takeChannel_106 h) (fun _ => zpc_if (fun _ => fp_fX10_takeChannel_106 h) (fun _ => zpc_ck (fp_fX10_takeChannel_110 h)))
theorem fp_fX10_takeChannel_71 {σ0 : zSt} {σ : zSt} {x1 : Int32} (h : (zQ [30, 32, 5, 11, 12] [] [5, 46, 48] [(38, 0, 1), (38, 3, 6)]) σ0 σ) : zpc (fX10_takeChannel_71 σ x1) (fun r => (zQ [30, 32, 5, 11, 12] [] [5, 46, 48] [(38, 0, 1), (38, 3, 6)]) σ0 (r)) := by
  unfold fX10_takeChannel_71
  exact zpc_ck (fp_fX10_takeChannel_82 h)
theorem fp_fX10_takeChannel {σ0 : zSt} {σ : zSt} {x1 : Int32} (h : (zQ [30, 32, 5, 11, 12] [] [5, 46, 48] [(38, 0, 1), (38, 3, 6)]) σ0 σ) : zpc (fX10_takeChannel σ x1) (fun r => (zQ [30, 32, 5, 11, 12] [] [5, 46, 48] [(38, 0, 1), (38, 3, 6)]) σ0 (r)) := by
  unfold fX10_takeChannel
  exact zpc_bs (zQ.wi h rfl) (fun σ2 hσ2 => zpc_ck (zpc_ck (zpc_bs (zQ.wi hσ2 rfl) (fun σ3 hσ3 => zpc_ck (zpc_bs (zQ.wi hσ3 rfl) (fun σ4 hσ4 => zpc_if (fun _ => fp_fX10_takeChannel_71 hσ4) (fun _ => zpc_if (fun _ => fp_fX10_takeChannel_71 hσ4) (fun _ => fp_fX10_takeChannel_82 hσ4))))))))
theorem fp_fX10_isOn_131 {σ0 : zSt} {σ : zSt} {s0 : Int32} (h : (zQ [30, 32, 5, 11, 12] [] [5, 46, 48] [(38, 0, 1), (38, 3, 6)]) σ0 σ) : zpc (fX10_isOn_131 σ s0) (fun r => (zQ [30, 32, 5, 11, 12] [] [5, 46, 48] [(38, 0, 1), (38, 3, 6)]) σ0 (r.1)) := by
  unfold fX10_isOn_131
  exact zpc_ck (zpc_some h)
theorem fp_fX10_isOn_122 {σ0 : zSt} {σ : zSt} {s0 : Int32} {s1 : Int32} (h : (zQ [30, 32, 5, 11, 12] [] [5, 46, 48] [(38, 0, 1), (38, 3, 6)]) σ0 σ) : zpc (fX10_isOn_122 σ s0 s1) (fun r => (zQ [30, 32, 5, 11, 12] [] [5, 46, 48] [(38, 0, 1), (38, 3, 6)]) σ0 (r.1)) := by
  unfold fX10_isOn_122
  exact zpc_if (fun _ => fp_fX10_isOn_131 h) (fun _ => fp_fX10_isOn_131 h)
theorem fp_fX10_isOn_105 {σ0 : zSt} {σ : zSt} {s0 : Int32} (h : (zQ [30, 32, 5, 11, 12] [] [5, 46, 48] [(38, 0, 1), (38, 3, 6)]) σ0 σ) : zpc (fX10_isOn_105 σ s0) (fun r => (zQ [30, 32, 5, 11, 12] [] [5, 46, 48] [(38, 0, 1), (38, 3, 6)]) σ0 (r.1)) := by
  unfold fX10_isOn_105
  exact zpc_ck (zpc_some h)
theorem fp_fX10_isOn_96 {σ0 : zSt} {σ : zSt} {s0 : Int32} {s1 : Int32} (h : (zQ [30, 32, 5, 11, 12] [] [5, 46, 48] [(38, 0, 1), (38, 3, 6)]) σ0 σ) : zpc (fX10_isOn_96 σ s0 s1) (fun r => (zQ [30, 32, 5, 11, 12] [] [5, 46, 48] [(38, 0, 1), (38, 3, 6)]) σ0 (r.1)) := by
  unfold fX10_isOn_96
  exact zpc_if (fun _ => fp_fX10_isOn_105 h) (fun _ => fp_fX10_isOn_105 h)
theorem fp_fX10_isOn_78 {σ0 : zSt} {σ : zSt} {s0 : Int32} (h : (zQ [30, 32, 5, 11, 12] [] [5, 46, 48] [(38, 0, 1), (38, 3, 6)]) σ0 σ) : zpc (fX10_isOn_78 σ s0) (fun r => (zQ [30, 32, 5, 11, 12] [] [5, 46, 48] [(38, 0, 1), (38, 3, 6)]) σ0 (r.1)) := by
  unfold fX10_isOn_78
  exact zpc_ck (zpc_some h)
theorem fp_fX10_isOn {σ0 : zSt} {σ : zSt} {x1 : Int32} (h : (zQ [30, 32, 5, 11, 12] [] [5, 46, 48] [(38, 0, 1), (38, 3, 6)]) σ0 σ) : zpc (fX10_isOn σ x1) (fun r => (zQ [30, 32, 5, 11, 12] [] [5, 46, 48] [(38, 0, 1), (38, 3, 6)]) σ0 (r.1)) := by
  unfold fX10_isOn
  exact zpc_ck (zpc_if (fun _ => zpc_if (fun _ => zpc_ck (zpc_some h)) (fun _ => zpc_if (fun _ => zpc_ck (zpc_if (fun _ => fp_fX10_isOn_78 h) (fun _ => fp_fX10_isOn_78 h))) (fun _ => zpc_if (fun _ => zpc_ck (zpc_if (fun _ => fp_fX10_isOn_96 h) (fun _ => fp_fX10_isOn_96 h))) (fun _ => zpc_if (fun _ => zpc_ck (zpc_if (fun _ => fp_fX10_isOn_122 h) (fun _ => fp_fX10_isOn_122 h))) (fun _ => zpc_ck (zpc_some h)))))) (fun _ => zpc_ck (zpc_some h)))
theorem fp_fX10_part {σ0 : zSt} {σ : zSt} {x1 : Int32} (h : (zQ [30, 32, 5, 11, 12] [] [5, 46, 48] [(38, 0, 1), (38, 3, 6)]) σ0 σ) : zpc (fX10_part σ x1) (fun r => (zQ [30, 32, 5, 11, 12] [] [5, 46, 48] [(38, 0, 1), (38, 3, 6)]) σ0 (r.1)) := by
  unfold fX10_part
  exact zpc_some h
theorem fp_fX10_rateIn_126 {σ0 : zSt} {σ : zSt} {s0 : Int32} (h : (zQ [30, 32, 5, 11, 12] [] [5, 46, 48] [(38, 0, 1), (38, 3, 6)]) σ0 σ) : zpc (fX10_rateIn_126 σ s0) (fun r => (zQ [30, 32, 5, 11, 12] [] [5, 46, 48] [(38, 0, 1), (38, 3, 6)]) σ0 (r.1)) := by
  unfold fX10_rateIn_126
  exact zpc_some h
theorem fp_fX10_rateIn_94 {σ0 : zSt} {σ : zSt} {s0 : Int32} (h : (zQ [30, 32, 5, 11, 12] [] [5, 46, 48] [(38, 0, 1), (38, 3, 6)]) σ0 σ) : zpc (fX10_rateIn_94 σ s0) (fun r => (zQ [30, 32, 5, 11, 12] [] [5, 46, 48] [(38, 0, 1), (38, 3, 6)]) σ0 (r.1)) := by
  unfold fX10_rateIn_94
  exact zpc_some h
theorem fp_fX10_rateIn_16 {σ0 : zSt} {σ : zSt} {x1 : Int32} {x2 : Int32} {s0 : Int32} (h : (zQ [30, 32, 5, 11, 12] [] [5, 46, 48] [(38, 0, 1), (38, 3, 6)]) σ0 σ) : zpc (fX10_rateIn_16 σ x1 x2 s0) (fun r => (zQ [30, 32, 5, 11, 12] [] [5, 46, 48] [(38, 0, 1), (38, 3, 6)]) σ0 (r.1)) := by
  unfold fX10_rateIn_16
  exact zpc_bi (fp_fX10_part h) (fun σ1 v2 hσ1 => zpc_bv (fun v3 _ => zpc_if (fun _ => zpc_some hσ1) (fun _ => zpc_if (fun _ => zpc_bi (fp_fX10_part hσ1) (fun σ4 v5 hσ4 => zpc_some hσ4)) (fun _ => zpc_if (fun _ => zpc_bi (fp_fX10_part hσ1) (fun σ6 v7 hσ6 => zpc_some hσ6)) (fun _ => zpc_if (fun _ => zpc_if (fun _ => fp_fX10_rateIn_94 hσ1) (fun _ => fp_fX10_rateIn_94 hσ1)) (fun _ => zpc_ck (zpc_if (fun _ => zpc_if (fun _ => fp_fX10_rateIn_126 hσ1) (fun _ => fp_fX10_rateIn_126 hσ1)) (fun _ => zpc_some hσ1))))))))
theorem fp_fX10_rateIn {σ0 : zSt} {σ : zSt} {x1 : Int32} {x2 : Int32} (h : (zQ [30, 32, 5, 11, 12] [] [5, 46, 48] [(38, 0, 1), (38, 3, 6)]) σ0 σ) : zpc (fX10_rateIn σ x1 x2) (fun r => (zQ [30, 32, 5, 11, 12] [] [5, 46, 48] [(38, 0, 1), (38, 3, 6)]) σ0 (r.1)) := by
  unfold fX10_rateIn
  exact zpc_bi (fp_fX10_part h) (fun σ8 v9 hσ8 => zpc_if (fun _ => fp_fX10_rateIn_16 hσ8) (fun _ => fp_fX10_rateIn_16 hσ8))
theorem fp_fX10_slowTick {σ0 : zSt} {σ : zSt} (h : (zQ [30, 32, 5, 11, 12] [] [5, 46, 48] [(38, 0, 1), (38, 3, 6)]) σ0 σ) : zpc (fX10_slowTick σ) (fun r => (zQ [30, 32, 5, 11, 12] [] [5, 46, 48] [(38, 0, 1), (38, 3, 6)]) σ0 (r.1)) := by
  unfold fX10_slowTick
  exact zpc_ck (zpc_some h)
theorem fp_fX10_tickAt_53 {σ0 : zSt} {σ : zSt} {s0 : Int32} (h : (zQ [30, 32, 5, 11, 12] [] [5, 46, 48] [(38, 0, 1), (38, 3, 6)]) σ0 σ) : zpc (fX10_tickAt_53 σ s0) (fun r => (zQ [30, 32, 5, 11, 12] [] [5, 46, 48] [(38, 0, 1), (38, 3, 6)]) σ0 (r.1)) := by
  unfold fX10_tickAt_53
  exact zpc_some h
theorem fp_fX10_tickAt_26 {σ0 : zSt} {σ : zSt} {x2 : Int32} {x3 : Int32} {s0 : Int32} (h : (zQ [30, 32, 5, 11, 12] [] [5, 46, 48] [(38, 0, 1), (38, 3, 6)]) σ0 σ) : zpc (fX10_tickAt_26 σ x2 x3 s0) (fun r => (zQ [30, 32, 5, 11, 12] [] [5, 46, 48] [(38, 0, 1), (38, 3, 6)]) σ0 (r.1)) := by
  unfold fX10_tickAt_26
  exact zpc_if (fun _ => fp_fX10_tickAt_53 h) (fun _ => zpc_ck (fp_fX10_tickAt_53 h))
theorem fp_fX10_tickAt {σ0 : zSt} {σ : zSt} {x1 : Int32} {x2 : Int32} (h : (zQ [30, 32, 5, 11, 12] [] [5, 46, 48] [(38, 0, 1), (38, 3, 6)]) σ0 σ) : zpc (fX10_tickAt σ x1 x2) (fun r => (zQ [30, 32, 5, 11, 12] [] [5, 46, 48] [(38, 0, 1), (38, 3, 6)]) σ0 (r.1)) := by
  unfold fX10_tickAt
  exact zpc_bv (fun v1 _ => zpc_ck (zpc_if (fun _ => fp_fX10_tickAt_26 h) (fun _ => fp_fX10_tickAt_26 h)))
theorem fp_fX10_louder_56 {σ0 : zSt} {σ : zSt} {s0 : Int32} (h : (zQ [30, 32, 5, 11, 12] [] [5, 46, 48] [(38, 0, 1), (38, 3, 6)]) σ0 σ) : zpc (fX10_louder_56 σ s0) (fun r => (zQ [30, 32, 5, 11, 12] [] [5, 46, 48] [(38, 0, 1), (38, 3, 6)]) σ0 (r.1)) := by
  unfold fX10_louder_56
  exact zpc_some h
theorem fp_fX10_louder {σ0 : zSt} {σ : zSt} {x1 : Int32} {x2 : Int32} {x3 : Int32} (h : (zQ [30, 32, 5, 11, 12] [] [5, 46, 48] [(38, 0, 1), (38, 3, 6)]) σ0 σ) : zpc (fX10_louder σ x1 x2 x3) (fun r => (zQ [30, 32, 5, 11, 12] [] [5, 46, 48] [(38, 0, 1), (38, 3, 6)]) σ0 (r.1)) := by
  unfold fX10_louder
  exact zpc_if (fun _ => zpc_some h) (fun _ => zpc_if (fun _ => zpc_bi (fp_fX10_tickAt h) (fun σ1 v2 hσ1 => zpc_if (fun _ => zpc_ck (fp_fX10_louder_56 hσ1)) (fun _ => fp_fX10_louder_56 hσ1))) (fun _ => zpc_bi (fp_fX10_slowTick h) (fun σ3 v4 hσ3 => zpc_some hσ3)))
theorem fp_fX10_softer {σ0 : zSt} {σ : zSt} {x1 : Int32} {x2 : Int32} (h : (zQ [30, 32, 5, 11, 12] [] [5, 46, 48] [(38, 0, 1), (38, 3, 6)]) σ0 σ) : zpc (fX10_softer σ x1 x2) (fun r => (zQ [30, 32, 5, 11, 12] [] [5, 46, 48] [(38, 0, 1), (38, 3, 6)]) σ0 (r.1)) := by
  unfold fX10_softer
  exact zpc_if (fun _ => zpc_bi (fp_fX10_slowTick h) (fun σ1 v2 hσ1 => zpc_ck (zpc_some hσ1))) (fun _ => zpc_if (fun _ => zpc_bi (fp_fX10_slowTick h) (fun σ3 v4 hσ3 => zpc_some hσ3)) (fun _ => zpc_if (fun _ => zpc_some h) (fun _ => zpc_bi (fp_fX10_tickAt h) (fun σ5 v6 hσ5 => zpc_some hσ5))))
theorem fp_fX10_moveLevel_148 {σ0 : zSt} {σ : zSt} (h : (zQ [30, 32, 5, 11, 12] [] [5, 46, 48] [(38, 0, 1), (38, 3, 6)]) σ0 σ) : zpc (fX10_moveLevel_148 σ) (fun r => (zQ [30, 32, 5, 11, 12] [] [5, 46, 48] [(38, 0, 1), (38, 3, 6)]) σ0 (r)) := by
  unfold fX10_moveLevel_148
  exact zpc_some h
theorem fp_fX10_moveLevel_52 {σ0 : zSt} {σ : zSt} {x1 : Int32} {x3 : Int32} {x4 : Int32} (h : (zQ [30, 32, 5, 11, 12] [] [5, 46, 48] [(38, 0, 1), (38, 3, 6)]) σ0 σ) : zpc (fX10_moveLevel_52 σ x1 x3 x4) (fun r => (zQ [30, 32, 5, 11, 12] [] [5, 46, 48] [(38, 0, 1), (38, 3, 6)]) σ0 (r)) := by
  unfold fX10_moveLevel_52
  exact zpc_ck (zpc_bv (fun v1 _ => zpc_ck (zpc_bv (fun v2 _ => zpc_ck (zpc_if (fun _ => zpc_ck (zpc_bi (fp_fX10_louder h) (fun σ6 v7 hσ6 => zpc_ck (zpc_bs (zQ.wi hσ6 rfl) (fun σ8 hσ8 => fp_fX10_moveLevel_148 hσ8))))) (fun _ => zpc_ck (zpc_bi (fp_fX10_softer h) (fun σ3 v4 hσ3 => zpc_ck (zpc_bs (zQ.wi hσ3 rfl) (fun σ5 hσ5 => fp_fX10_moveLevel_148 hσ5))))))))))
theorem fp_fX10_moveLevel {σ0 : zSt} {σ : zSt} {x1 : Int32} {x2 : Int32} (h : (zQ [30, 32, 5, 11, 12] [] [5, 46, 48] [(38, 0, 1), (38, 3, 6)]) σ0 σ) : zpc (fX10_moveLevel σ x1 x2) (fun r => (zQ [30, 32, 5, 11, 12] [] [5, 46, 48] [(38, 0, 1), (38, 3, 6)]) σ0 (r)) := by
  unfold fX10_moveLevel
  exact zpc_ck (zpc_bi (fp_fX10_rateIn h) (fun σ9 v10 hσ9 => zpc_if (fun _ => zpc_some hσ9) (fun _ => zpc_bv (fun v11 _ => zpc_bi (fp_fX10_part hσ9) (fun σ12 v13 hσ12 => zpc_if (fun _ => zpc_ck (zpc_bv (fun v14 _ => fp_fX10_moveLevel_52 hσ12))) (fun _ => fp_fX10_moveLevel_52 hσ12))))))
theorem fp_fX10_moveState_96 {σ0 : zSt} {σ : zSt} (h : (zQ [30, 32, 5, 11, 12] [] [5, 46, 48] [(38, 0, 1), (38, 3, 6)]) σ0 σ) : zpc (fX10_moveState_96 σ) (fun r => (zQ [30, 32, 5, 11, 12] [] [5, 46, 48] [(38, 0, 1), (38, 3, 6)]) σ0 (r)) := by
  unfold fX10_moveState_96
  exact zpc_some h
theorem fp_fX10_moveState_73 {σ0 : zSt} {σ : zSt} {x1 : Int32} {x2 : Int32} {x3 : Int32} {x4 : Int32} (h : (zQ [30, 32, 5, 11, 12] [] [5, 46, 48] [(38, 0, 1), (38, 3, 6)]) σ0 σ) : zpc (fX10_moveState_73 σ x1 x2 x3 x4) (fun r => (zQ [30, 32, 5, 11, 12] [] [5, 46, 48] [(38, 0, 1), (38, 3, 6)]) σ0 (r)) := by
  unfold fX10_moveState_73
  exact zpc_if (fun _ => zpc_ck (zpc_if (fun _ => fp_fX10_moveState_96 h) (fun _ => zpc_ck (zpc_bs (zQ.wi h rfl) (fun σ1 hσ1 => fp_fX10_moveState_96 hσ1))))) (fun _ => fp_fX10_moveState_96 h)
theorem fp_fX10_moveState_51 {σ0 : zSt} {σ : zSt} {x1 : Int32} {x2 : Int32} {x3 : Int32} {x4 : Int32} (h : (zQ [30, 32, 5, 11, 12] [] [5, 46, 48] [(38, 0, 1), (38, 3, 6)]) σ0 σ) : zpc (fX10_moveState_51 σ x1 x2 x3 x4) (fun r => (zQ [30, 32, 5, 11, 12] [] [5, 46, 48] [(38, 0, 1), (38, 3, 6)]) σ0 (r)) := by
  unfold fX10_moveState_51
  exact zpc_if (fun _ => zpc_if (fun _ => zpc_ck (zpc_bs (zQ.wi h rfl) (fun σ2 hσ2 => fp_fX10_moveState_96 hσ2))) (fun _ => fp_fX10_moveState_73 h)) (fun _ => fp_fX10_moveState_73 h)
theorem fp_fX10_moveState {σ0 : zSt} {σ : zSt} {x1 : Int32} {x2 : Int32} (h : (zQ [30, 32, 5, 11, 12] [] [5, 46, 48] [(38, 0, 1), (38, 3, 6)]) σ0 σ) : zpc (fX10_moveState σ x1 x2) (fun r => (zQ [30, 32, 5, 11, 12] [] [5, 46, 48] [(38, 0, 1), (38, 3, 6)]) σ0 (r)) := by
  unfold fX10_moveState
  exact zpc_ck (zpc_bv (fun v3 _ => zpc_ck (zpc_bv (fun v4 _ => zpc_if (fun _ => zpc_if (fun _ => fp_fX10_moveState_51 h) (fun _ => zpc_ck (zpc_bs (zQ.wi h rfl) (fun σ5 hσ5 => zpc_ck (zpc_bs (zQ.wi hσ5 rfl) (fun σ6 hσ6 => fp_fX10_moveState_96 hσ6)))))) (fun _ => fp_fX10_moveState_51 h)))))
theorem fp_fX10_sway_56 {σ0 : zSt} {σ : zSt} {x1 : Int32} (h : (zQ [30, 32, 5, 11, 12] [] [5, 46, 48] [(38, 0, 1), (38, 3, 6)]) σ0 σ) : zpc (fX10_sway_56 σ x1) (fun r => (zQ [30, 32, 5, 11, 12] [] [5, 46, 48] [(38, 0, 1), (38, 3, 6)]) σ0 (r.1)) := by
  unfold fX10_sway_56
  exact zpc_ck (zpc_some h)
theorem fp_fX10_sway_70 {σ0 : zSt} {σ : zSt} (h : (zQ [30, 32, 5, 11, 12] [] [5, 46, 48] [(38, 0, 1), (38, 3, 6)]) σ0 σ) : zpc (fX10_sway_70 σ) (fun r => (zQ [30, 32, 5, 11, 12] [] [5, 46, 48] [(38, 0, 1), (38, 3, 6)]) σ0 (r.1)) := by
  unfold fX10_sway_70
  exact zpc_some h
theorem fp_fX10_sway_62 {σ0 : zSt} {σ : zSt} {x1 : Int32} (h : (zQ [30, 32, 5, 11, 12] [] [5, 46, 48] [(38, 0, 1), (38, 3, 6)]) σ0 σ) : zpc (fX10_sway_62 σ x1) (fun r => (zQ [30, 32, 5, 11, 12] [] [5, 46, 48] [(38, 0, 1), (38, 3, 6)]) σ0 (r.1)) := by
  unfold fX10_sway_62
  exact zpc_ck (zpc_some h)
theorem fp_fX10_sway {σ0 : zSt} {σ : zSt} {x1 : Int32} (h : (zQ [30, 32, 5, 11, 12] [] [5, 46, 48] [(38, 0, 1), (38, 3, 6)]) σ0 σ) : zpc (fX10_sway σ x1) (fun r => (zQ [30, 32, 5, 11, 12] [] [5, 46, 48] [(38, 0, 1), (38, 3, 6)]) σ0 (r.1)) := by
  unfold fX10_sway
  exact zpc_ck (zpc_if (fun _ => fp_fX10_sway_56 h) (fun _ => zpc_if (fun _ => zpc_some h) (fun _ => zpc_if (fun _ => fp_fX10_sway_56 h) (fun _ => zpc_if (fun _ => fp_fX10_sway_70 h) (fun _ => zpc_if (fun _ => fp_fX10_sway_62 h) (fun _ => zpc_if (fun _ => zpc_some h) (fun _ => zpc_if (fun _ => fp_fX10_sway_62 h) (fun _ => fp_fX10_sway_70 h))))))))
theorem fp_fX10_movePhase_22 {σ0 : zSt} {σ : zSt} {x1 : Int32} {x2 : Int32} {s0 : Int32} (h : (zQ [30, 32, 5, 11, 12] [] [5, 46, 48] [(38, 0, 1), (38, 3, 6)]) σ0 σ) : zpc (fX10_movePhase_22 σ x1 x2 s0) (fun r => (zQ [30, 32, 5, 11, 12] [] [5, 46, 48] [(38, 0, 1), (38, 3, 6)]) σ0 (r)) := by
  unfold fX10_movePhase_22
  exact zpc_ck (zpc_ck (zpc_bv (fun v1 _ => zpc_ck (zpc_ck (zpc_bs (zQ.wi h rfl) (fun σ2 hσ2 => zpc_some hσ2))))))
theorem fp_fX10_movePhase {σ0 : zSt} {σ : zSt} {x1 : Int32} {x2 : Int32} (h : (zQ [30, 32, 5, 11, 12] [] [5, 46, 48] [(38, 0, 1), (38, 3, 6)]) σ0 σ) : zpc (fX10_movePhase σ x1 x2) (fun r => (zQ [30, 32, 5, 11, 12] [] [5, 46, 48] [(38, 0, 1), (38, 3, 6)]) σ0 (r)) := by
  unfold fX10_movePhase
  exact zpc_if (fun _ => fp_fX10_movePhase_22 h) (fun _ => zpc_ck (zpc_bi (fp_fX10_sway h) (fun σ3 v4 hσ3 => fp_fX10_movePhase_22 hσ3)))
theorem fp_fX10_drumPhase_115 {σ0 : zSt} {σ : zSt} {s0 : Int32} (h : (zQ [30, 32, 5, 11, 12] [] [5, 46, 48] [(38, 0, 1), (38, 3, 6)]) σ0 σ) : zpc (fX10_drumPhase_115 σ s0) (fun r => (zQ [30, 32, 5, 11, 12] [] [5, 46, 48] [(38, 0, 1), (38, 3, 6)]) σ0 (r.1)) := by
  unfold fX10_drumPhase_115
  exact zpc_some h
theorem fp_fX10_drumPhase_155 {σ0 : zSt} {σ : zSt} {s0 : Int32} (h : (zQ [30, 32, 5, 11, 12] [] [5, 46, 48] [(38, 0, 1), (38, 3, 6)]) σ0 σ) : zpc (fX10_drumPhase_155 σ s0) (fun r => (zQ [30, 32, 5, 11, 12] [] [5, 46, 48] [(38, 0, 1), (38, 3, 6)]) σ0 (r.1)) := by
  unfold fX10_drumPhase_155
  exact zpc_some h
theorem fp_fX10_drumPhase_193 {σ0 : zSt} {σ : zSt} {s0 : Int32} (h : (zQ [30, 32, 5, 11, 12] [] [5, 46, 48] [(38, 0, 1), (38, 3, 6)]) σ0 σ) : zpc (fX10_drumPhase_193 σ s0) (fun r => (zQ [30, 32, 5, 11, 12] [] [5, 46, 48] [(38, 0, 1), (38, 3, 6)]) σ0 (r.1)) := by
  unfold fX10_drumPhase_193
  exact zpc_some h
theorem fp_fX10_drumPhase_82 {σ0 : zSt} {σ : zSt} {x1 : Int32} {x2 : Int32} {x5 : Int32} {s0 : Int32} (h : (zQ [30, 32, 5, 11, 12] [] [5, 46, 48] [(38, 0, 1), (38, 3, 6)]) σ0 σ) : zpc (fX10_drumPhase_82 σ x1 x2 x5 s0) (fun r => (zQ [30, 32, 5, 11, 12] [] [5, 46, 48] [(38, 0, 1), (38, 3, 6)]) σ0 (r.1)) := by
  unfold fX10_drumPhase_82
  exact zpc_if (fun _ => zpc_if (fun _ => fp_fX10_drumPhase_115 h) (fun _ => zpc_if (fun _ => fp_fX10_drumPhase_115 h) (fun _ => fp_fX10_drumPhase_115 h))) (fun _ => zpc_if (fun _ => zpc_if (fun _ => zpc_if (fun _ => fp_fX10_drumPhase_155 h) (fun _ => fp_fX10_drumPhase_155 h)) (fun _ => zpc_if (fun _ => fp_fX10_drumPhase_155 h) (fun _ => fp_fX10_drumPhase_155 h))) (fun _ => zpc_if (fun _ => zpc_if (fun _ => fp_fX10_drumPhase_193 h) (fun _ => fp_fX10_drumPhase_193 h)) (fun _ => zpc_if (fun _ => fp_fX10_drumPhase_193 h) (fun _ => fp_fX10_drumPhase_193 h))))
theorem fp_fX10_drumPhase_62 {σ0 : zSt} {σ : zSt} {x1 : Int32} {x2 : Int32} {s0 : Int32} (h : (zQ [30, 32, 5, 11, 12] [] [5, 46, 48] [(38, 0, 1), (38, 3, 6)]) σ0 σ) : zpc (fX10_drumPhase_62 σ x1 x2 s0) (fun r => (zQ [30, 32, 5, 11, 12] [] [5, 46, 48] [(38, 0, 1), (38, 3, 6)]) σ0 (r.1)) := by
  unfold fX10_drumPhase_62
  exact zpc_ck (zpc_if (fun _ => fp_fX10_drumPhase_82 h) (fun _ => fp_fX10_drumPhase_82 h))
theorem fp_fX10_drumPhase {σ0 : zSt} {σ : zSt} {x1 : Int32} {x2 : Int32} (h : (zQ [30, 32, 5, 11, 12] [] [5, 46, 48] [(38, 0, 1), (38, 3, 6)]) σ0 σ) : zpc (fX10_drumPhase σ x1 x2) (fun r => (zQ [30, 32, 5, 11, 12] [] [5, 46, 48] [(38, 0, 1), (38, 3, 6)]) σ0 (r.1)) := by
  unfold fX10_drumPhase
  exact zpc_ck (zpc_bv (fun v1 _ => zpc_ck (zpc_bv (fun v2 _ => zpc_if (fun _ => fp_fX10_drumPhase_62 h) (fun _ => fp_fX10_drumPhase_62 h)))))
theorem fp_fX10_turnedPhase_98 {σ0 : zSt} {σ : zSt} {s0 : Int32} (h : (zQ [30, 32, 5, 11, 12] [] [5, 46, 48] [(38, 0, 1), (38, 3, 6)]) σ0 σ) : zpc (fX10_turnedPhase_98 σ s0) (fun r => (zQ [30, 32, 5, 11, 12] [] [5, 46, 48] [(38, 0, 1), (38, 3, 6)]) σ0 (r.1)) := by
  unfold fX10_turnedPhase_98
  exact zpc_some h
theorem fp_fX10_turnedPhase_35 {σ0 : zSt} {σ : zSt} {x1 : Int32} {x2 : Int32} {x3 : Int32} (h : (zQ [30, 32, 5, 11, 12] [] [5, 46, 48] [(38, 0, 1), (38, 3, 6)]) σ0 σ) : zpc (fX10_turnedPhase_35 σ x1 x2 x3) (fun r => (zQ [30, 32, 5, 11, 12] [] [5, 46, 48] [(38, 0, 1), (38, 3, 6)]) σ0 (r.1)) := by
  unfold fX10_turnedPhase_35
  exact zpc_if (fun _ => zpc_ck (zpc_some h)) (fun _ => zpc_bi (fp_fX10_part h) (fun σ1 v2 hσ1 => zpc_bv (fun v3 _ => zpc_if (fun _ => fp_fX10_turnedPhase_98 hσ1) (fun _ => zpc_ck (zpc_ck (fp_fX10_turnedPhase_98 hσ1))))))
theorem fp_fX10_turnedPhase {σ0 : zSt} {σ : zSt} {x1 : Int32} {x2 : Int32} (h : (zQ [30, 32, 5, 11, 12] [] [5, 46, 48] [(38, 0, 1), (38, 3, 6)]) σ0 σ) : zpc (fX10_turnedPhase σ x1 x2) (fun r => (zQ [30, 32, 5, 11, 12] [] [5, 46, 48] [(38, 0, 1), (38, 3, 6)]) σ0 (r.1)) := by
  unfold fX10_turnedPhase
  exact zpc_ck (zpc_bv (fun v4 _ => zpc_if (fun _ => fp_fX10_turnedPhase_35 h) (fun _ => zpc_if (fun _ => fp_fX10_turnedPhase_35 h) (fun _ => zpc_bi (fp_fX10_drumPhase h) (fun σ5 v6 hσ5 => zpc_some hσ5)))))
theorem fp_fX10_scaled_44 {σ0 : zSt} {σ : zSt} {s0 : Int32} (h : (zQ [30, 32, 5, 11, 12] [] [5, 46, 48] [(38, 0, 1), (38, 3, 6)]) σ0 σ) : zpc (fX10_scaled_44 σ s0) (fun r => (zQ [30, 32, 5, 11, 12] [] [5, 46, 48] [(38, 0, 1), (38, 3, 6)]) σ0 (r.1)) := by
  unfold fX10_scaled_44
  exact zpc_some h
theorem fp_fX10_scaled {σ0 : zSt} {σ : zSt} {x1 : Int32} (h : (zQ [30, 32, 5, 11, 12] [] [5, 46, 48] [(38, 0, 1), (38, 3, 6)]) σ0 σ) : zpc (fX10_scaled σ x1) (fun r => (zQ [30, 32, 5, 11, 12] [] [5, 46, 48] [(38, 0, 1), (38, 3, 6)]) σ0 (r.1)) := by
  unfold fX10_scaled
  exact zpc_if (fun _ => zpc_some h) (fun _ => zpc_ck (zpc_bv (fun v1 _ => zpc_if (fun _ => fp_fX10_scaled_44 h) (fun _ => fp_fX10_scaled_44 h))))
theorem fp_fX10_tremble_30 {σ0 : zSt} {σ : zSt} {s0 : Int32} (h : (zQ [30, 32, 5, 11, 12] [] [5, 46, 48] [(38, 0, 1), (38, 3, 6)]) σ0 σ) : zpc (fX10_tremble_30 σ s0) (fun r => (zQ [30, 32, 5, 11, 12] [] [5, 46, 48] [(38, 0, 1), (38, 3, 6)]) σ0 (r.1)) := by
  unfold fX10_tremble_30
  exact zpc_ck (zpc_some h)
theorem fp_fX10_tremble {σ0 : zSt} {σ : zSt} (h : (zQ [30, 32, 5, 11, 12] [] [5, 46, 48] [(38, 0, 1), (38, 3, 6)]) σ0 σ) : zpc (fX10_tremble σ) (fun r => (zQ [30, 32, 5, 11, 12] [] [5, 46, 48] [(38, 0, 1), (38, 3, 6)]) σ0 (r.1)) := by
  unfold fX10_tremble
  exact zpc_ck (zpc_ck (zpc_ck (zpc_bv (fun v1 _ => zpc_if (fun _ => fp_fX10_tremble_30 h) (fun _ => fp_fX10_tremble_30 h)))))
theorem fp_fX10_softness_124 {σ0 : zSt} {σ : zSt} {x4 : Int32} (h : (zQ [30, 32, 5, 11, 12] [] [5, 46, 48] [(38, 0, 1), (38, 3, 6)]) σ0 σ) : zpc (fX10_softness_124 σ x4) (fun r => (zQ [30, 32, 5, 11, 12] [] [5, 46, 48] [(38, 0, 1), (38, 3, 6)]) σ0 (r.1)) := by
  unfold fX10_softness_124
  exact zpc_some h
theorem fp_fX10_softness_103 {σ0 : zSt} {σ : zSt} {x2 : Int32} {x4 : Int32} (h : (zQ [30, 32, 5, 11, 12] [] [5, 46, 48] [(38, 0, 1), (38, 3, 6)]) σ0 σ) : zpc (fX10_softness_103 σ x2 x4) (fun r => (zQ [30, 32, 5, 11, 12] [] [5, 46, 48] [(38, 0, 1), (38, 3, 6)]) σ0 (r.1)) := by
  unfold fX10_softness_103
  exact zpc_bi (fp_fX10_part h) (fun σ1 v2 hσ1 => zpc_if (fun _ => fp_fX10_softness_124 hσ1) (fun _ => zpc_bi (fp_fX10_tremble hσ1) (fun σ3 v4 hσ3 => zpc_bv (fun v5 _ => fp_fX10_softness_124 hσ3))))
theorem fp_fX10_softness_88 {σ0 : zSt} {σ : zSt} {x2 : Int32} {x4 : Int32} (h : (zQ [30, 32, 5, 11, 12] [] [5, 46, 48] [(38, 0, 1), (38, 3, 6)]) σ0 σ) : zpc (fX10_softness_88 σ x2 x4) (fun r => (zQ [30, 32, 5, 11, 12] [] [5, 46, 48] [(38, 0, 1), (38, 3, 6)]) σ0 (r.1)) := by
  unfold fX10_softness_88
  exact zpc_bi (fp_fX10_part h) (fun σ6 v7 hσ6 => zpc_bv (fun v8 _ => fp_fX10_softness_103 hσ6))
theorem fp_fX10_softness {σ0 : zSt} {σ : zSt} {x1 : Int32} {x2 : Int32} (h : (zQ [30, 32, 5, 11, 12] [] [5, 46, 48] [(38, 0, 1), (38, 3, 6)]) σ0 σ) : zpc (fX10_softness σ x1 x2) (fun r => (zQ [30, 32, 5, 11, 12] [] [5, 46, 48] [(38, 0, 1), (38, 3, 6)]) σ0 (r.1)) := by
  unfold fX10_softness
  exact zpc_ck (zpc_bv (fun v9 _ => zpc_ck (zpc_bi (fp_fX10_part h) (fun σ10 v11 hσ10 => zpc_bi (fp_fX10_scaled hσ10) (fun σ12 v13 hσ12 => zpc_bv (fun v14 _ => zpc_if (fun _ => zpc_bv (fun v16 _ => fp_fX10_softness_103 hσ12)) (fun _ => zpc_if (fun _ => fp_fX10_softness_88 hσ12) (fun _ => zpc_if (fun _ => fp_fX10_softness_88 hσ12) (fun _ => zpc_bv (fun v15 _ => fp_fX10_softness_103 hσ12))))))))))
theorem fp_fX10_waveAt_104 {σ0 : zSt} {σ : zSt} {s0 : Int32} (h : (zQ [30, 32, 5, 11, 12] [] [5, 46, 48] [(38, 0, 1), (38, 3, 6)]) σ0 σ) : zpc (fX10_waveAt_104 σ s0) (fun r => (zQ [30, 32, 5, 11, 12] [] [5, 46, 48] [(38, 0, 1), (38, 3, 6)]) σ0 (r.1)) := by
  unfold fX10_waveAt_104
  exact zpc_some h
theorem fp_fX10_waveAt_49 {σ0 : zSt} {σ : zSt} {x1 : Int32} {x3 : Int32} {s0 : Int32} (h : (zQ [30, 32, 5, 11, 12] [] [5, 46, 48] [(38, 0, 1), (38, 3, 6)]) σ0 σ) : zpc (fX10_waveAt_49 σ x1 x3 s0) (fun r => (zQ [30, 32, 5, 11, 12] [] [5, 46, 48] [(38, 0, 1), (38, 3, 6)]) σ0 (r.1)) := by
  unfold fX10_waveAt_49
  exact zpc_ck (zpc_bv (fun v1 _ => zpc_ck (zpc_bv (fun v2 _ => zpc_if (fun _ => fp_fX10_waveAt_104 h) (fun _ => fp_fX10_waveAt_104 h)))))
theorem fp_fX10_waveAt_24 {σ0 : zSt} {σ : zSt} {x0 : Int32} {x1 : Int32} {x3 : Int32} (h : (zQ [30, 32, 5, 11, 12] [] [5, 46, 48] [(38, 0, 1), (38, 3, 6)]) σ0 σ) : zpc (fX10_waveAt_24 σ x0 x1 x3) (fun r => (zQ [30, 32, 5, 11, 12] [] [5, 46, 48] [(38, 0, 1), (38, 3, 6)]) σ0 (r.1)) := by
  unfold fX10_waveAt_24
  exact zpc_if (fun _ => fp_fX10_waveAt_49 h) (fun _ => fp_fX10_waveAt_49 h)
theorem fp_fX10_waveAt_13 {σ0 : zSt} {σ : zSt} {x0 : Int32} {x1 : Int32} {x2 : Int32} {s0 : Int32} (h : (zQ [30, 32, 5, 11, 12] [] [5, 46, 48] [(38, 0, 1), (38, 3, 6)]) σ0 σ) : zpc (fX10_waveAt_13 σ x0 x1 x2 s0) (fun r => (zQ [30, 32, 5, 11, 12] [] [5, 46, 48] [(38, 0, 1), (38, 3, 6)]) σ0 (r.1)) := by
  unfold fX10_waveAt_13
  exact zpc_if (fun _ => fp_fX10_waveAt_24 h) (fun _ => zpc_if (fun _ => fp_fX10_waveAt_24 h) (fun _ => zpc_some h))
theorem fp_fX10_waveAt {σ0 : zSt} {σ : zSt} {x0 : Int32} {x1 : Int32} {x2 : Int32} (h : (zQ [30, 32, 5, 11, 12] [] [5, 46, 48] [(38, 0, 1), (38, 3, 6)]) σ0 σ) : zpc (fX10_waveAt σ x0 x1 x2) (fun r => (zQ [30, 32, 5, 11, 12] [] [5, 46, 48] [(38, 0, 1), (38, 3, 6)]) σ0 (r.1)) := by
  unfold fX10_waveAt
  exact zpc_if (fun _ => fp_fX10_waveAt_13 h) (fun _ => fp_fX10_waveAt_13 h)
theorem fp_fX10_moveOut_55 {σ0 : zSt} {σ : zSt} {x1 : Int32} {x3 : Int32} (h : (zQ [30, 32, 5, 11, 12] [] [5, 46, 48] [(38, 0, 1), (38, 3, 6)]) σ0 σ) : zpc (fX10_moveOut_55 σ x1 x3) (fun r => (zQ [30, 32, 5, 11, 12] [] [5, 46, 48] [(38, 0, 1), (38, 3, 6)]) σ0 (r)) := by
  unfold fX10_moveOut_55
  exact zpc_ck (zpc_ck (zpc_bs (zQ.wi h rfl) (fun σ1 hσ1 => zpc_ck (zpc_bs (zQ.wi hσ1 rfl) (fun σ2 hσ2 => zpc_some hσ2)))))
theorem fp_fX10_moveOut_51 {σ0 : zSt} {σ : zSt} {x1 : Int32} {s0 : Int32} {s1 : Int32} {s2 : Int32} (h : (zQ [30, 32, 5, 11, 12] [] [5, 46, 48] [(38, 0, 1), (38, 3, 6)]) σ0 σ) : zpc (fX10_moveOut_51 σ x1 s0 s1 s2) (fun r => (zQ [30, 32, 5, 11, 12] [] [5, 46, 48] [(38, 0, 1), (38, 3, 6)]) σ0 (r)) := by
  unfold fX10_moveOut_51
  exact zpc_bi (fp_fX10_waveAt h) (fun σ3 v4 hσ3 => fp_fX10_moveOut_55 hσ3)
theorem fp_fX10_moveOut {σ0 : zSt} {σ : zSt} {x1 : Int32} {x2 : Int32} (h : (zQ [30, 32, 5, 11, 12] [] [5, 46, 48] [(38, 0, 1), (38, 3, 6)]) σ0 σ) : zpc (fX10_moveOut σ x1 x2) (fun r => (zQ [30, 32, 5, 11, 12] [] [5, 46, 48] [(38, 0, 1), (38, 3, 6)]) σ0 (r)) := by
  unfold fX10_moveOut
  exact zpc_ck (zpc_if (fun _ => fp_fX10_moveOut_55 h) (fun _ => zpc_bi (fp_fX10_turnedPhase h) (fun σ5 v6 hσ5 => zpc_bi (fp_fX10_softness hσ5) (fun σ7 v8 hσ7 => zpc_bi (fp_fX10_part hσ7) (fun σ9 v10 hσ9 => zpc_if (fun _ => fp_fX10_moveOut_51 hσ9) (fun _ => fp_fX10_moveOut_51 hσ9))))))
theorem fp_fX10_moveOperator_99 {σ0 : zSt} {σ : zSt} {x1 : Int32} {x2 : Int32} (h : (zQ [30, 32, 5, 11, 12] [] [5, 46, 48] [(38, 0, 1), (38, 3, 6)]) σ0 σ) : zpc (fX10_moveOperator_99 σ x1 x2) (fun r => (zQ [30, 32, 5, 11, 12] [] [5, 46, 48] [(38, 0, 1), (38, 3, 6)]) σ0 (r)) := by
  unfold fX10_moveOperator_99
  exact zpc_bi (fp_fX10_part h) (fun σ1 v2 hσ1 => zpc_bu (fp_fX10_movePhase hσ1) (fun σ3 hσ3 => zpc_bu (fp_fX10_moveOut hσ3) (fun σ4 hσ4 => zpc_some hσ4)))
theorem fp_fX10_moveOperator_78 {σ0 : zSt} {σ : zSt} {x1 : Int32} {x2 : Int32} (h : (zQ [30, 32, 5, 11, 12] [] [5, 46, 48] [(38, 0, 1), (38, 3, 6)]) σ0 σ) : zpc (fX10_moveOperator_78 σ x1 x2) (fun r => (zQ [30, 32, 5, 11, 12] [] [5, 46, 48] [(38, 0, 1), (38, 3, 6)]) σ0 (r)) := by
  unfold fX10_moveOperator_78
  exact zpc_bu (fp_fX10_moveLevel h) (fun σ5 hσ5 => zpc_bi (fp_fX10_part hσ5) (fun σ6 v7 hσ6 => zpc_bu (fp_fX10_moveState hσ6) (fun σ8 hσ8 => fp_fX10_moveOperator_99 hσ8)))
theorem fp_fX10_moveOperator_53 {σ0 : zSt} {σ : zSt} {x1 : Int32} {x2 : Int32} (h : (zQ [30, 32, 5, 11, 12] [] [5, 46, 48] [(38, 0, 1), (38, 3, 6)]) σ0 σ) : zpc (fX10_moveOperator_53 σ x1 x2) (fun r => (zQ [30, 32, 5, 11, 12] [] [5, 46, 48] [(38, 0, 1), (38, 3, 6)]) σ0 (r)) := by
  unfold fX10_moveOperator_53
  exact zpc_ck (zpc_if (fun _ => zpc_ck (zpc_if (fun _ => fp_fX10_moveOperator_99 h) (fun _ => fp_fX10_moveOperator_78 h))) (fun _ => fp_fX10_moveOperator_78 h))
theorem fp_fX10_moveOperator_52 {σ0 : zSt} {σ : zSt} {x1 : Int32} {x2 : Int32} {s0 : Int32} {s1 : Int32} (h : (zQ [30, 32, 5, 11, 12] [] [5, 46, 48] [(38, 0, 1), (38, 3, 6)]) σ0 σ) : zpc (fX10_moveOperator_52 σ x1 x2 s0 s1) (fun r => (zQ [30, 32, 5, 11, 12] [] [5, 46, 48] [(38, 0, 1), (38, 3, 6)]) σ0 (r)) := by
  unfold fX10_moveOperator_52
  exact zpc_ck (zpc_bs (zQ.wi h rfl) (fun σ9 hσ9 => fp_fX10_moveOperator_53 hσ9))
theorem fp_fX10_moveOperator_13 {σ0 : zSt} {σ : zSt} {x1 : Int32} {x2 : Int32} {s0 : Int32} (h : (zQ [30, 32, 5, 11, 12] [] [5, 46, 48] [(38, 0, 1), (38, 3, 6)]) σ0 σ) : zpc (fX10_moveOperator_13 σ x1 x2 s0) (fun r => (zQ [30, 32, 5, 11, 12] [] [5, 46, 48] [(38, 0, 1), (38, 3, 6)]) σ0 (r)) := by
  unfold fX10_moveOperator_13
  exact zpc_ck (zpc_if (fun _ => fp_fX10_moveOperator_53 h) (fun _ => zpc_ck (zpc_bs (zQ.wi h rfl) (fun σ10 hσ10 => zpc_if (fun _ => fp_fX10_moveOperator_52 hσ10) (fun _ => fp_fX10_moveOperator_52 hσ10)))))
theorem fp_fX10_moveOperator {σ0 : zSt} {σ : zSt} {x1 : Int32} {x2 : Int32} (h : (zQ [30, 32, 5, 11, 12] [] [5, 46, 48] [(38, 0, 1), (38, 3, 6)]) σ0 σ) : zpc (fX10_moveOperator σ x1 x2) (fun r => (zQ [30, 32, 5, 11, 12] [] [5, 46, 48] [(38, 0, 1), (38, 3, 6)]) σ0 (r)) := by
  unfold fX10_moveOperator
  exact zpc_bi (fp_fX10_isOn h) (fun σ11 v12 hσ11 => zpc_if (fun _ => fp_fX10_moveOperator_13 hσ11) (fun _ => fp_fX10_moveOperator_13 hσ11))
theorem fp_fX10_makeNext_136 {σ0 : zSt} {k41 : zSt → Int32 → Int32 → Option (zSt)} (hk41 : ∀ (y0 : zSt) (y1 : Int32) (y2 : Int32), (zQ [30, 32, 5, 11, 12] [] [5, 46, 48] [(38, 0, 1), (38, 3, 6)]) σ0 y0 → zpc (k41 y0 y1 y2) (fun r => (zQ [30, 32, 5, 11, 12] [] [5, 46, 48] [(38, 0, 1), (38, 3, 6)]) σ0 (r))) {σ : zSt} {x2 : Int32} {s0 : Int32} {s1 : Int32} {s2 : Int32} (h : (zQ [30, 32, 5, 11, 12] [] [5, 46, 48] [(38, 0, 1), (38, 3, 6)]) σ0 σ) : zpc (fX10_makeNext_136 k41 σ x2 s0 s1 s2) (fun r => (zQ [30, 32, 5, 11, 12] [] [5, 46, 48] [(38, 0, 1), (38, 3, 6)]) σ0 (r)) := by
  unfold fX10_makeNext_136
  exact zpc_bv (fun v1 _ => zpc_bv (fun v2 _ => hk41 _ _ _ h))
theorem fp_fX10_makeNext_135 {σ0 : zSt} {k41 : zSt → Int32 → Int32 → Option (zSt)} (hk41 : ∀ (y0 : zSt) (y1 : Int32) (y2 : Int32), (zQ [30, 32, 5, 11, 12] [] [5, 46, 48] [(38, 0, 1), (38, 3, 6)]) σ0 y0 → zpc (k41 y0 y1 y2) (fun r => (zQ [30, 32, 5, 11, 12] [] [5, 46, 48] [(38, 0, 1), (38, 3, 6)]) σ0 (r))) {σ : zSt} {x2 : Int32} {s0 : Int32} {s1 : Int32} (h : (zQ [30, 32, 5, 11, 12] [] [5, 46, 48] [(38, 0, 1), (38, 3, 6)]) σ0 σ) : zpc (fX10_makeNext_135 k41 σ x2 s0 s1) (fun r => (zQ [30, 32, 5, 11, 12] [] [5, 46, 48] [(38, 0, 1), (38, 3, 6)]) σ0 (r)) := by
  unfold fX10_makeNext_135
  exact fp_fX10_makeNext_136 hk41 h
theorem fp_fX10_makeNext_101 {σ0 : zSt} {k41 : zSt → Int32 → Int32 → Option (zSt)} (hk41 : ∀ (y0 : zSt) (y1 : Int32) (y2 : Int32), (zQ [30, 32, 5, 11, 12] [] [5, 46, 48] [(38, 0, 1), (38, 3, 6)]) σ0 y0 → zpc (k41 y0 y1 y2) (fun r => (zQ [30, 32, 5, 11, 12] [] [5, 46, 48] [(38, 0, 1), (38, 3, 6)]) σ0 (r))) {σ : zSt} {x1 : Int32} {x2 : Int32} {x3 : Int32} {s0 : Int32} (h : (zQ [30, 32, 5, 11, 12] [] [5, 46, 48] [(38, 0, 1), (38, 3, 6)]) σ0 σ) : zpc (fX10_makeNext_101 k41 σ x1 x2 x3 s0) (fun r => (zQ [30, 32, 5, 11, 12] [] [5, 46, 48] [(38, 0, 1), (38, 3, 6)]) σ0 (r)) := by
  unfold fX10_makeNext_101
  exact zpc_ck (zpc_if (fun _ => fp_fX10_makeNext_135 hk41 h) (fun _ => zpc_if (fun _ => fp_fX10_makeNext_135 hk41 h) (fun _ => fp_fX10_makeNext_136 hk41 h)))
theorem fp_fX10_makeNext_100 {σ0 : zSt} {k41 : zSt → Int32 → Int32 → Option (zSt)} (hk41 : ∀ (y0 : zSt) (y1 : Int32) (y2 : Int32), (zQ [30, 32, 5, 11, 12] [] [5, 46, 48] [(38, 0, 1), (38, 3, 6)]) σ0 y0 → zpc (k41 y0 y1 y2) (fun r => (zQ [30, 32, 5, 11, 12] [] [5, 46, 48] [(38, 0, 1), (38, 3, 6)]) σ0 (r))) {σ : zSt} {x1 : Int32} {x2 : Int32} {x3 : Int32} (h : (zQ [30, 32, 5, 11, 12] [] [5, 46, 48] [(38, 0, 1), (38, 3, 6)]) σ0 σ) : zpc (fX10_makeNext_100 k41 σ x1 x2 x3) (fun r => (zQ [30, 32, 5, 11, 12] [] [5, 46, 48] [(38, 0, 1), (38, 3, 6)]) σ0 (r)) := by
  unfold fX10_makeNext_100
  exact fp_fX10_makeNext_101 hk41 h
theorem fp_fX10_makeNext_174 {σ0 : zSt} {σ : zSt} {x1 : Int32} {s0 : Int32} {s1 : Int32} (h : (zQ [30, 32, 5, 11, 12] [] [5, 46, 48] [(38, 0, 1), (38, 3, 6)]) σ0 σ) : zpc (fX10_makeNext_174 σ x1 s0 s1) (fun r => (zQ [30, 32, 5, 11, 12] [] [5, 46, 48] [(38, 0, 1), (38, 3, 6)]) σ0 (r)) := by
  unfold fX10_makeNext_174
  exact zpc_ck (zpc_bs (zQ.wi h rfl) (fun σ3 hσ3 => zpc_ck (zpc_bs (zQ.wi hσ3 rfl) (fun σ4 hσ4 => zpc_some hσ4))))
theorem fp_fX10_makeNext_41_body {σ0 : zSt} {k41 : zSt → Int32 → Int32 → Option (zSt)} (hk41 : ∀ (y0 : zSt) (y1 : Int32) (y2 : Int32), (zQ [30, 32, 5, 11, 12] [] [5, 46, 48] [(38, 0, 1), (38, 3, 6)]) σ0 y0 → zpc (k41 y0 y1 y2) (fun r => (zQ [30, 32, 5, 11, 12] [] [5, 46, 48] [(38, 0, 1), (38, 3, 6)]) σ0 (r))) {σ : zSt} {x1 : Int32} {x2 : Int32} (h : (zQ [30, 32, 5, 11, 12] [] [5, 46, 48] [(38, 0, 1), (38, 3, 6)]) σ0 σ) : zpc (fX10_makeNext_41_body k41 σ x1 x2) (fun r => (zQ [30, 32, 5, 11, 12] [] [5, 46, 48] [(38, 0, 1), (38, 3, 6)]) σ0 (r)) := by
  unfold fX10_makeNext_41_body
  exact zpc_if (fun _ => zpc_ck (zpc_bv (fun v5 _ => zpc_if (fun _ => fp_fX10_makeNext_174 h) (fun _ => fp_fX10_makeNext_174 h)))) (fun _ => zpc_bu (fp_fX10_takeChannel h) (fun σ6 hσ6 => zpc_bv (fun v7 _ => zpc_bu (fp_fX10_moveOperator hσ6) (fun σ8 hσ8 => zpc_bu (fp_fX10_moveOperator hσ8) (fun σ9 hσ9 => zpc_if (fun _ => fp_fX10_makeNext_100 hk41 hσ9) (fun _ => zpc_if (fun _ => fp_fX10_makeNext_100 hk41 hσ9) (fun _ => zpc_ck (fp_fX10_makeNext_101 hk41 hσ9))))))))
theorem fp_fX10_makeNext_41 {σ0 : zSt} : ∀ (n : Nat) (y0 : zSt) (y1 : Int32) (y2 : Int32), (zQ [30, 32, 5, 11, 12] [] [5, 46, 48] [(38, 0, 1), (38, 3, 6)]) σ0 y0 → zpc (fX10_makeNext_41 n y0 y1 y2) (fun r => (zQ [30, 32, 5, 11, 12] [] [5, 46, 48] [(38, 0, 1), (38, 3, 6)]) σ0 (r)) := by
  intro n
  induction n with
  | zero => intro y0 y1 y2 h; exact zpc_none
  | succ n ih => intro y0 y1 y2 h; exact fp_fX10_makeNext_41_body ih h
theorem fp_fX10_makeNext_30 {σ0 : zSt} {σ : zSt} {s0 : Int32} (h : (zQ [30, 32, 5, 11, 12] [] [5, 46, 48] [(38, 0, 1), (38, 3, 6)]) σ0 σ) : zpc (fX10_makeNext_30 σ s0) (fun r => (zQ [30, 32, 5, 11, 12] [] [5, 46, 48] [(38, 0, 1), (38, 3, 6)]) σ0 (r)) := by
  unfold fX10_makeNext_30
  exact zpc_ck (zpc_bs (zQ.wi h rfl) (fun σ10 hσ10 => zpc_bu (fp_fX10_takeOwnPatch hσ10) (fun σ11 hσ11 => fp_fX10_makeNext_41 _ _ _ _ hσ11)))
theorem fp_fX10_makeNext {σ0 : zSt} {σ : zSt} (h : (zQ [30, 32, 5, 11, 12] [] [5, 46, 48] [(38, 0, 1), (38, 3, 6)]) σ0 σ) : zpc (fX10_makeNext σ) (fun r => (zQ [30, 32, 5, 11, 12] [] [5, 46, 48] [(38, 0, 1), (38, 3, 6)]) σ0 (r)) := by
  unfold fX10_makeNext
  exact zpc_ck (zpc_ck (zpc_bs (zQ.wi h rfl) (fun σ12 hσ12 => zpc_ck (zpc_if (fun _ => fp_fX10_makeNext_30 hσ12) (fun _ => fp_fX10_makeNext_30 hσ12)))))
theorem fp_fX10_heard_24 {σ0 : zSt} {σ : zSt} {s0 : Int32} (h : (zQ [30, 32, 5, 11, 12] [] [5, 46, 48] [(38, 0, 1), (38, 3, 6)]) σ0 σ) : zpc (fX10_heard_24 σ s0) (fun r => (zQ [30, 32, 5, 11, 12] [] [5, 46, 48] [(38, 0, 1), (38, 3, 6)]) σ0 (r.1)) := by
  unfold fX10_heard_24
  exact zpc_some h
theorem fp_fX10_heard {σ0 : zSt} {σ : zSt} (h : (zQ [30, 32, 5, 11, 12] [] [5, 46, 48] [(38, 0, 1), (38, 3, 6)]) σ0 σ) : zpc (fX10_heard σ) (fun r => (zQ [30, 32, 5, 11, 12] [] [5, 46, 48] [(38, 0, 1), (38, 3, 6)]) σ0 (r.1)) := by
  unfold fX10_heard
  exact zpc_ck (zpc_if (fun _ => zpc_ck (fp_fX10_heard_24 h)) (fun _ => fp_fX10_heard_24 h))
theorem fp_fX6_add_k12_56 {σ0 : zSt} {σ : zSt} (h : (zQ [30, 32, 5, 11, 12] [] [5, 46, 48] [(38, 0, 1), (38, 3, 6)]) σ0 σ) : zpc (fX6_add_k12_56 σ) (fun r => (zQ [30, 32, 5, 11, 12] [] [5, 46, 48] [(38, 0, 1), (38, 3, 6)]) σ0 (r)) := by
  unfold fX6_add_k12_56
  exact zpc_some h
theorem fp_fX6_add_k12 {σ0 : zSt} {σ : zSt} {x1 : Int64} (h : (zQ [30, 32, 5, 11, 12] [] [5, 46, 48] [(38, 0, 1), (38, 3, 6)]) σ0 σ) : zpc (fX6_add_k12 σ x1) (fun r => (zQ [30, 32, 5, 11, 12] [] [5, 46, 48] [(38, 0, 1), (38, 3, 6)]) σ0 (r)) := by
  unfold fX6_add_k12
  exact zpc_ck (zpc_bs (zQ.wl h rfl) (fun σ1 hσ1 => zpc_if (fun _ => zpc_bs (zQ.wi hσ1 rfl) (fun σ2 hσ2 => fp_fX6_add_k12_56 hσ2)) (fun _ => zpc_bs (zQ.wi hσ1 rfl) (fun σ3 hσ3 => fp_fX6_add_k12_56 hσ3))))
theorem fp_fX0_addMix {σ0 : zSt} {σ : zSt} (h : (zQ [30, 32, 5, 11, 12] [] [5, 46, 48] [(38, 0, 1), (38, 3, 6)]) σ0 σ) : zpc (fX0_addMix σ) (fun r => (zQ [30, 32, 5, 11, 12] [] [5, 46, 48] [(38, 0, 1), (38, 3, 6)]) σ0 (r)) := by
  unfold fX0_addMix
  exact zpc_ck (zpc_bv (fun v1 _ => zpc_ck (zpc_ck (zpc_bi (fp_fX10_heard h) (fun σ2 v3 hσ2 => zpc_bv (fun v4 _ => zpc_ck (zpc_ck (zpc_bi (fp_fX10_heard hσ2) (fun σ5 v6 hσ5 => zpc_bv (fun v7 _ => zpc_bu (fp_fX6_add_k12 hσ5) (fun σ8 hσ8 => zpc_ck (zpc_bs (zQ.wl hσ8 rfl) (fun σ9 hσ9 => zpc_ck (zpc_bs (zQ.wl hσ9 rfl) (fun σ10 hσ10 => zpc_ck (zpc_bs (zQ.wl hσ10 rfl) (fun σ11 hσ11 => zpc_some hσ11)))))))))))))))))
theorem fp_fX0_pass_105_body {σ0 : zSt} {k105 : zSt → Int64 → Int64 → Option (zSt)} (hk105 : ∀ (y0 : zSt) (y1 : Int64) (y2 : Int64), (zQ [30, 32, 5, 11, 12] [] [5, 46, 48] [(38, 0, 1), (38, 3, 6)]) σ0 y0 → zpc (k105 y0 y1 y2) (fun r => (zQ [30, 32, 5, 11, 12] [] [5, 46, 48] [(38, 0, 1), (38, 3, 6)]) σ0 (r))) {σ : zSt} {x4 : Int64} {x6 : Int64} (h : (zQ [30, 32, 5, 11, 12] [] [5, 46, 48] [(38, 0, 1), (38, 3, 6)]) σ0 σ) : zpc (fX0_pass_105_body k105 σ x4 x6) (fun r => (zQ [30, 32, 5, 11, 12] [] [5, 46, 48] [(38, 0, 1), (38, 3, 6)]) σ0 (r)) := by
  unfold fX0_pass_105_body
  exact zpc_ck (zpc_if (fun _ => zpc_some h) (fun _ => zpc_bu (fp_fX0_addMix h) (fun σ1 hσ1 => zpc_bv (fun v2 _ => hk105 _ _ _ hσ1))))
theorem fp_fX0_pass_105 {σ0 : zSt} : ∀ (n : Nat) (y0 : zSt) (y1 : Int64) (y2 : Int64), (zQ [30, 32, 5, 11, 12] [] [5, 46, 48] [(38, 0, 1), (38, 3, 6)]) σ0 y0 → zpc (fX0_pass_105 n y0 y1 y2) (fun r => (zQ [30, 32, 5, 11, 12] [] [5, 46, 48] [(38, 0, 1), (38, 3, 6)]) σ0 (r)) := by
  intro n
  induction n with
  | zero => intro y0 y1 y2 h; exact zpc_none
  | succ n ih => intro y0 y1 y2 h; exact fp_fX0_pass_105_body ih h
theorem fp_fX0_pass_70_body {σ0 : zSt} {k70 : zSt → Int64 → Int64 → Int64 → Option (zSt)} (hk70 : ∀ (y0 : zSt) (y1 : Int64) (y2 : Int64) (y3 : Int64), (zQ [30, 32, 5, 11, 12] [] [5, 46, 48] [(38, 0, 1), (38, 3, 6)]) σ0 y0 → zpc (k70 y0 y1 y2 y3) (fun r => (zQ [30, 32, 5, 11, 12] [] [5, 46, 48] [(38, 0, 1), (38, 3, 6)]) σ0 (r))) {σ : zSt} {x2 : Int64} {x4 : Int64} {x6 : Int64} (h : (zQ [30, 32, 5, 11, 12] [] [5, 46, 48] [(38, 0, 1), (38, 3, 6)]) σ0 σ) : zpc (fX0_pass_70_body k70 σ x2 x4 x6) (fun r => (zQ [30, 32, 5, 11, 12] [] [5, 46, 48] [(38, 0, 1), (38, 3, 6)]) σ0 (r)) := by
  unfold fX0_pass_70_body
  exact zpc_ck (zpc_if (fun _ => zpc_ck (zpc_bv (fun v3 _ => fp_fX0_pass_105 _ _ _ _ h))) (fun _ => zpc_bu (fp_fX10_makeNext h) (fun σ4 hσ4 => zpc_bv (fun v5 _ => hk70 _ _ _ _ hσ4))))
theorem fp_fX0_pass_70 {σ0 : zSt} : ∀ (n : Nat) (y0 : zSt) (y1 : Int64) (y2 : Int64) (y3 : Int64), (zQ [30, 32, 5, 11, 12] [] [5, 46, 48] [(38, 0, 1), (38, 3, 6)]) σ0 y0 → zpc (fX0_pass_70 n y0 y1 y2 y3) (fun r => (zQ [30, 32, 5, 11, 12] [] [5, 46, 48] [(38, 0, 1), (38, 3, 6)]) σ0 (r)) := by
  intro n
  induction n with
  | zero => intro y0 y1 y2 y3 h; exact zpc_none
  | succ n ih => intro y0 y1 y2 y3 h; exact fp_fX0_pass_70_body ih h
theorem fp_fX0_pass_38_body {σ0 : zSt} {k38 : zSt → Int64 → Int64 → Int64 → Option (zSt)} (hk38 : ∀ (y0 : zSt) (y1 : Int64) (y2 : Int64) (y3 : Int64), (zQ [30, 32, 5, 11, 12] [] [5, 46, 48] [(38, 0, 1), (38, 3, 6)]) σ0 y0 → zpc (k38 y0 y1 y2 y3) (fun r => (zQ [30, 32, 5, 11, 12] [] [5, 46, 48] [(38, 0, 1), (38, 3, 6)]) σ0 (r))) {σ : zSt} {x2 : Int64} {x4 : Int64} {x6 : Int64} (h : (zQ [30, 32, 5, 11, 12] [] [5, 46, 48] [(38, 0, 1), (38, 3, 6)]) σ0 σ) : zpc (fX0_pass_38_body k38 σ x2 x4 x6) (fun r => (zQ [30, 32, 5, 11, 12] [] [5, 46, 48] [(38, 0, 1), (38, 3, 6)]) σ0 (r)) := by
  unfold fX0_pass_38_body
  exact zpc_ck (zpc_if (fun _ => zpc_ck (zpc_bv (fun v6 _ => fp_fX0_pass_70 _ _ _ _ _ h))) (fun _ => zpc_bu (fp_fX0_addSample h) (fun σ7 hσ7 => zpc_bv (fun v8 _ => hk38 _ _ _ _ hσ7))))
theorem fp_fX0_pass_38 {σ0 : zSt} : ∀ (n : Nat) (y0 : zSt) (y1 : Int64) (y2 : Int64) (y3 : Int64), (zQ [30, 32, 5, 11, 12] [] [5, 46, 48] [(38, 0, 1), (38, 3, 6)]) σ0 y0 → zpc (fX0_pass_38 n y0 y1 y2 y3) (fun r => (zQ [30, 32, 5, 11, 12] [] [5, 46, 48] [(38, 0, 1), (38, 3, 6)]) σ0 (r)) := by
  intro n
  induction n with
  | zero => intro y0 y1 y2 y3 h; exact zpc_none
  | succ n ih => intro y0 y1 y2 y3 h; exact fp_fX0_pass_38_body ih h
theorem fp_fX0_pass {σ0 : zSt} {σ : zSt} {x1 : Int32} (h : (zQ [30, 32, 5, 11, 12] [] [5, 46, 48] [(38, 0, 1), (38, 3, 6)]) σ0 σ) : zpc (fX0_pass σ x1) (fun r => (zQ [30, 32, 5, 11, 12] [] [5, 46, 48] [(38, 0, 1), (38, 3, 6)]) σ0 (r)) := by
  unfold fX0_pass
  exact zpc_ck (zpc_bv (fun v9 _ => zpc_bv (fun v10 _ => zpc_ck (zpc_bs (zQ.wl h rfl) (fun σ11 hσ11 => zpc_ck (zpc_ck (zpc_bs (zQ.wl hσ11 rfl) (fun σ12 hσ12 => zpc_ck (zpc_bv (fun v13 _ => fp_fX0_pass_38 _ _ _ _ _ hσ12))))))))))
