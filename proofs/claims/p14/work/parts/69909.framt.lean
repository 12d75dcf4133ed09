theorem ft_fX8_putSign_29 {σ0 : zSt} {σ : zSt} (h : (zQ [45] [(10, 2, 2)] [] []) σ0 σ) : zpc (fX8_putSign_29 σ) (fun r => (zQ [45] [(10, 2, 2)] [] []) σ0 (r)) := by
  unfold fX8_putSign_29
  exact zpc_some h
theorem ft_fX8_putSign {σ0 : zSt} {σ : zSt} {x1 : Int32} (h : (zQ [45] [(10, 2, 2)] [] []) σ0 σ) : zpc (fX8_putSign σ x1) (fun r => (zQ [45] [(10, 2, 2)] [] []) σ0 (r)) := by
  unfold fX8_putSign
  exact zpc_if (fun _ => ft_fX8_putSign_29 h) (fun _ => zpc_ck (zpc_bs (zQ.wi h rfl) (fun σ1 hσ1 => zpc_bs (zQ.wi hσ1 rfl) (fun σ2 hσ2 => ft_fX8_putSign_29 hσ2))))
theorem ft_fX8_putByte {σ0 : zSt} {σ : zSt} {x1 : Int32} (h : (zQ [45] [(10, 2, 2)] [] []) σ0 σ) : zpc (fX8_putByte σ x1) (fun r => (zQ [45] [(10, 2, 2)] [] []) σ0 (r)) := by
  unfold fX8_putByte
  exact zpc_ck (zpc_ck (zpc_bu (ft_fX8_putSign h) (fun σ1 hσ1 => zpc_ck (zpc_ck (zpc_bu (ft_fX8_putSign hσ1) (fun σ2 hσ2 => zpc_some hσ2))))))
