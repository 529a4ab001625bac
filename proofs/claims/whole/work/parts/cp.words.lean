theorem ml_L_19 : Cond.methodLink RL 19 yX11_feed ∈ gws := gws_at 529 (by decide +kernel) rfl
theorem im_X11_feed : Cond.instanceMethod yX11_feed ∈ gws := gws_at 530 (by decide +kernel) rfl
theorem se_11_X11_feed : ∀ ci ∈ [11], ∃ (C : String) (T : u_T) (N : Nat), xclasses[ci]? = some (C, T, N) ∧ Cond.selects C yX11_feed yX11_feed ∈ gws := fun ci hc => by
  cases List.mem_singleton.mp hc
  exact ⟨RX11, TX11, 19, rfl, gws_at 531 (by decide +kernel) rfl⟩
theorem ml_L_23 : Cond.methodLink RL 23 yX12_feed ∈ gws := gws_at 1473 (by decide +kernel) rfl
theorem im_X12_feed : Cond.instanceMethod yX12_feed ∈ gws := gws_at 1474 (by decide +kernel) rfl
theorem se_12_X12_feed : ∀ ci ∈ [12], ∃ (C : String) (T : u_T) (N : Nat), xclasses[ci]? = some (C, T, N) ∧ Cond.selects C yX12_feed yX12_feed ∈ gws := fun ci hc => by
  cases List.mem_singleton.mp hc
  exact ⟨RX12, TX12, 57, rfl, gws_at 1475 (by decide +kernel) rfl⟩
theorem ml_L_24 : Cond.methodLink RL 24 yX11_end ∈ gws := gws_at 540 (by decide +kernel) rfl
theorem im_X11_end : Cond.instanceMethod yX11_end ∈ gws := gws_at 541 (by decide +kernel) rfl
theorem se_11_X11_end : ∀ ci ∈ [11], ∃ (C : String) (T : u_T) (N : Nat), xclasses[ci]? = some (C, T, N) ∧ Cond.selects C yX11_end yX11_end ∈ gws := fun ci hc => by
  cases List.mem_singleton.mp hc
  exact ⟨RX11, TX11, 19, rfl, gws_at 542 (by decide +kernel) rfl⟩
theorem ml_L_28 : Cond.methodLink RL 28 yX12_end ∈ gws := gws_at 1484 (by decide +kernel) rfl
theorem im_X12_end : Cond.instanceMethod yX12_end ∈ gws := gws_at 1485 (by decide +kernel) rfl
theorem se_12_X12_end : ∀ ci ∈ [12], ∃ (C : String) (T : u_T) (N : Nat), xclasses[ci]? = some (C, T, N) ∧ Cond.selects C yX12_end yX12_end ∈ gws := fun ci hc => by
  cases List.mem_singleton.mp hc
  exact ⟨RX12, TX12, 57, rfl, gws_at 1486 (by decide +kernel) rfl⟩
theorem ml_L_29 : Cond.methodLink RL 29 yX11_fault ∈ gws := gws_at 544 (by decide +kernel) rfl
theorem ml_L_33 : Cond.methodLink RL 33 yX12_fault ∈ gws := gws_at 1488 (by decide +kernel) rfl
theorem ml_L_34 : Cond.methodLink RL 34 yX11_text ∈ gws := gws_at 782 (by decide +kernel) rfl
theorem im_X11_text : Cond.instanceMethod yX11_text ∈ gws := gws_at 783 (by decide +kernel) rfl
theorem se_11_X11_text : ∀ ci ∈ [11], ∃ (C : String) (T : u_T) (N : Nat), xclasses[ci]? = some (C, T, N) ∧ Cond.selects C yX11_text yX11_text ∈ gws := fun ci hc => by
  cases List.mem_singleton.mp hc
  exact ⟨RX11, TX11, 19, rfl, gws_at 784 (by decide +kernel) rfl⟩
theorem ml_L_37 : Cond.methodLink RL 37 yX12_text ∈ gws := gws_at 1622 (by decide +kernel) rfl
theorem im_X12_text : Cond.instanceMethod yX12_text ∈ gws := gws_at 1623 (by decide +kernel) rfl
theorem se_12_X12_text : ∀ ci ∈ [12], ∃ (C : String) (T : u_T) (N : Nat), xclasses[ci]? = some (C, T, N) ∧ Cond.selects C yX12_text yX12_text ∈ gws := fun ci hc => by
  cases List.mem_singleton.mp hc
  exact ⟨RX12, TX12, 57, rfl, gws_at 1624 (by decide +kernel) rfl⟩
theorem ml_L_43 : Cond.methodLink RL 43 yX12_house ∈ gws := gws_at 1631 (by decide +kernel) rfl
theorem im_X12_house : Cond.instanceMethod yX12_house ∈ gws := gws_at 1632 (by decide +kernel) rfl
theorem se_12_X12_house : ∀ ci ∈ [12], ∃ (C : String) (T : u_T) (N : Nat), xclasses[ci]? = some (C, T, N) ∧ Cond.selects C yX12_house yX12_house ∈ gws := fun ci hc => by
  cases List.mem_singleton.mp hc
  exact ⟨RX12, TX12, 57, rfl, gws_at 1633 (by decide +kernel) rfl⟩
theorem ml_L_44 : Cond.methodLink RL 44 yX12_thrown ∈ gws := gws_at 1469 (by decide +kernel) rfl
theorem im_X12_thrown : Cond.instanceMethod yX12_thrown ∈ gws := gws_at 1470 (by decide +kernel) rfl
theorem se_12_X12_thrown : ∀ ci ∈ [12], ∃ (C : String) (T : u_T) (N : Nat), xclasses[ci]? = some (C, T, N) ∧ Cond.selects C yX12_thrown yX12_thrown ∈ gws := fun ci hc => by
  cases List.mem_singleton.mp hc
  exact ⟨RX12, TX12, 57, rfl, gws_at 1471 (by decide +kernel) rfl⟩
theorem ml_L_48 : Cond.methodLink RL 48 yX11_owes ∈ gws := gws_at 807 (by decide +kernel) rfl
theorem im_X11_owes : Cond.instanceMethod yX11_owes ∈ gws := gws_at 808 (by decide +kernel) rfl
theorem se_11_X11_owes : ∀ ci ∈ [11], ∃ (C : String) (T : u_T) (N : Nat), xclasses[ci]? = some (C, T, N) ∧ Cond.selects C yX11_owes yX11_owes ∈ gws := fun ci hc => by
  cases List.mem_singleton.mp hc
  exact ⟨RX11, TX11, 19, rfl, gws_at 809 (by decide +kernel) rfl⟩
theorem ml_L_51 : Cond.methodLink RL 51 yX12_owes ∈ gws := gws_at 1654 (by decide +kernel) rfl
theorem im_X12_owes : Cond.instanceMethod yX12_owes ∈ gws := gws_at 1655 (by decide +kernel) rfl
theorem se_12_X12_owes : ∀ ci ∈ [12], ∃ (C : String) (T : u_T) (N : Nat), xclasses[ci]? = some (C, T, N) ∧ Cond.selects C yX12_owes yX12_owes ∈ gws := fun ci hc => by
  cases List.mem_singleton.mp hc
  exact ⟨RX12, TX12, 57, rfl, gws_at 1656 (by decide +kernel) rfl⟩
theorem ml_L_52 : Cond.methodLink RL 52 yX11_law ∈ gws := gws_at 817 (by decide +kernel) rfl
theorem im_X11_law : Cond.instanceMethod yX11_law ∈ gws := gws_at 818 (by decide +kernel) rfl
theorem se_11_X11_law : ∀ ci ∈ [11], ∃ (C : String) (T : u_T) (N : Nat), xclasses[ci]? = some (C, T, N) ∧ Cond.selects C yX11_law yX11_law ∈ gws := fun ci hc => by
  cases List.mem_singleton.mp hc
  exact ⟨RX11, TX11, 19, rfl, gws_at 819 (by decide +kernel) rfl⟩
theorem ml_L_55 : Cond.methodLink RL 55 yX12_law ∈ gws := gws_at 1659 (by decide +kernel) rfl
theorem im_X12_law : Cond.instanceMethod yX12_law ∈ gws := gws_at 1660 (by decide +kernel) rfl
theorem se_12_X12_law : ∀ ci ∈ [12], ∃ (C : String) (T : u_T) (N : Nat), xclasses[ci]? = some (C, T, N) ∧ Cond.selects C yX12_law yX12_law ∈ gws := fun ci hc => by
  cases List.mem_singleton.mp hc
  exact ⟨RX12, TX12, 57, rfl, gws_at 1661 (by decide +kernel) rfl⟩
theorem ml_L_56 : Cond.methodLink RL 56 yX11_sung ∈ gws := gws_at 825 (by decide +kernel) rfl
theorem im_X11_sung : Cond.instanceMethod yX11_sung ∈ gws := gws_at 826 (by decide +kernel) rfl
theorem se_11_X11_sung : ∀ ci ∈ [11], ∃ (C : String) (T : u_T) (N : Nat), xclasses[ci]? = some (C, T, N) ∧ Cond.selects C yX11_sung yX11_sung ∈ gws := fun ci hc => by
  cases List.mem_singleton.mp hc
  exact ⟨RX11, TX11, 19, rfl, gws_at 827 (by decide +kernel) rfl⟩
theorem ml_L_59 : Cond.methodLink RL 59 yX12_sung ∈ gws := gws_at 1663 (by decide +kernel) rfl
theorem im_X12_sung : Cond.instanceMethod yX12_sung ∈ gws := gws_at 1664 (by decide +kernel) rfl
theorem se_12_X12_sung : ∀ ci ∈ [12], ∃ (C : String) (T : u_T) (N : Nat), xclasses[ci]? = some (C, T, N) ∧ Cond.selects C yX12_sung yX12_sung ∈ gws := fun ci hc => by
  cases List.mem_singleton.mp hc
  exact ⟨RX12, TX12, 57, rfl, gws_at 1665 (by decide +kernel) rfl⟩
theorem ml_L_60 : Cond.methodLink RL 60 yX11_grace ∈ gws := gws_at 829 (by decide +kernel) rfl
theorem im_X11_grace : Cond.instanceMethod yX11_grace ∈ gws := gws_at 830 (by decide +kernel) rfl
theorem se_11_X11_grace : ∀ ci ∈ [11], ∃ (C : String) (T : u_T) (N : Nat), xclasses[ci]? = some (C, T, N) ∧ Cond.selects C yX11_grace yX11_grace ∈ gws := fun ci hc => by
  cases List.mem_singleton.mp hc
  exact ⟨RX11, TX11, 19, rfl, gws_at 831 (by decide +kernel) rfl⟩
theorem ml_L_63 : Cond.methodLink RL 63 yX12_grace ∈ gws := gws_at 1672 (by decide +kernel) rfl
theorem im_X12_grace : Cond.instanceMethod yX12_grace ∈ gws := gws_at 1673 (by decide +kernel) rfl
theorem se_12_X12_grace : ∀ ci ∈ [12], ∃ (C : String) (T : u_T) (N : Nat), xclasses[ci]? = some (C, T, N) ∧ Cond.selects C yX12_grace yX12_grace ∈ gws := fun ci hc => by
  cases List.mem_singleton.mp hc
  exact ⟨RX12, TX12, 57, rfl, gws_at 1674 (by decide +kernel) rfl⟩
theorem ml_L_64 : Cond.methodLink RL 64 yX11_cross ∈ gws := gws_at 833 (by decide +kernel) rfl
theorem im_X11_cross : Cond.instanceMethod yX11_cross ∈ gws := gws_at 834 (by decide +kernel) rfl
theorem se_11_X11_cross : ∀ ci ∈ [11], ∃ (C : String) (T : u_T) (N : Nat), xclasses[ci]? = some (C, T, N) ∧ Cond.selects C yX11_cross yX11_cross ∈ gws := fun ci hc => by
  cases List.mem_singleton.mp hc
  exact ⟨RX11, TX11, 19, rfl, gws_at 835 (by decide +kernel) rfl⟩
theorem ml_L_67 : Cond.methodLink RL 67 yX12_cross ∈ gws := gws_at 1677 (by decide +kernel) rfl
theorem im_X12_cross : Cond.instanceMethod yX12_cross ∈ gws := gws_at 1678 (by decide +kernel) rfl
theorem se_12_X12_cross : ∀ ci ∈ [12], ∃ (C : String) (T : u_T) (N : Nat), xclasses[ci]? = some (C, T, N) ∧ Cond.selects C yX12_cross yX12_cross ∈ gws := fun ci hc => by
  cases List.mem_singleton.mp hc
  exact ⟨RX12, TX12, 57, rfl, gws_at 1679 (by decide +kernel) rfl⟩
theorem ml_L_68 : Cond.methodLink RL 68 yX11_sing ∈ gws := gws_at 927 (by decide +kernel) rfl
theorem im_X11_sing : Cond.instanceMethod yX11_sing ∈ gws := gws_at 928 (by decide +kernel) rfl
theorem se_11_X11_sing : ∀ ci ∈ [11], ∃ (C : String) (T : u_T) (N : Nat), xclasses[ci]? = some (C, T, N) ∧ Cond.selects C yX11_sing yX11_sing ∈ gws := fun ci hc => by
  cases List.mem_singleton.mp hc
  exact ⟨RX11, TX11, 19, rfl, gws_at 929 (by decide +kernel) rfl⟩
theorem ml_L_71 : Cond.methodLink RL 71 yX12_sing ∈ gws := gws_at 1737 (by decide +kernel) rfl
theorem im_X12_sing : Cond.instanceMethod yX12_sing ∈ gws := gws_at 1738 (by decide +kernel) rfl
theorem se_12_X12_sing : ∀ ci ∈ [12], ∃ (C : String) (T : u_T) (N : Nat), xclasses[ci]? = some (C, T, N) ∧ Cond.selects C yX12_sing yX12_sing ∈ gws := fun ci hc => by
  cases List.mem_singleton.mp hc
  exact ⟨RX12, TX12, 57, rfl, gws_at 1739 (by decide +kernel) rfl⟩
theorem ml_L_72 : Cond.methodLink RL 72 yX11_gives ∈ gws := gws_at 931 (by decide +kernel) rfl
theorem im_X11_gives : Cond.instanceMethod yX11_gives ∈ gws := gws_at 932 (by decide +kernel) rfl
theorem se_11_X11_gives : ∀ ci ∈ [11], ∃ (C : String) (T : u_T) (N : Nat), xclasses[ci]? = some (C, T, N) ∧ Cond.selects C yX11_gives yX11_gives ∈ gws := fun ci hc => by
  cases List.mem_singleton.mp hc
  exact ⟨RX11, TX11, 19, rfl, gws_at 933 (by decide +kernel) rfl⟩
theorem ml_L_76 : Cond.methodLink RL 76 yX12_gives ∈ gws := gws_at 1745 (by decide +kernel) rfl
theorem im_X12_gives : Cond.instanceMethod yX12_gives ∈ gws := gws_at 1746 (by decide +kernel) rfl
theorem se_12_X12_gives : ∀ ci ∈ [12], ∃ (C : String) (T : u_T) (N : Nat), xclasses[ci]? = some (C, T, N) ∧ Cond.selects C yX12_gives yX12_gives ∈ gws := fun ci hc => by
  cases List.mem_singleton.mp hc
  exact ⟨RX12, TX12, 57, rfl, gws_at 1747 (by decide +kernel) rfl⟩
theorem ml_L_77 : Cond.methodLink RL 77 yX11_forgives ∈ gws := gws_at 936 (by decide +kernel) rfl
theorem im_X11_forgives : Cond.instanceMethod yX11_forgives ∈ gws := gws_at 937 (by decide +kernel) rfl
theorem se_11_X11_forgives : ∀ ci ∈ [11], ∃ (C : String) (T : u_T) (N : Nat), xclasses[ci]? = some (C, T, N) ∧ Cond.selects C yX11_forgives yX11_forgives ∈ gws := fun ci hc => by
  cases List.mem_singleton.mp hc
  exact ⟨RX11, TX11, 19, rfl, gws_at 938 (by decide +kernel) rfl⟩
theorem ml_L_80 : Cond.methodLink RL 80 yX12_forgives ∈ gws := gws_at 1749 (by decide +kernel) rfl
theorem im_X12_forgives : Cond.instanceMethod yX12_forgives ∈ gws := gws_at 1750 (by decide +kernel) rfl
theorem se_12_X12_forgives : ∀ ci ∈ [12], ∃ (C : String) (T : u_T) (N : Nat), xclasses[ci]? = some (C, T, N) ∧ Cond.selects C yX12_forgives yX12_forgives ∈ gws := fun ci hc => by
  cases List.mem_singleton.mp hc
  exact ⟨RX12, TX12, 57, rfl, gws_at 1751 (by decide +kernel) rfl⟩
theorem ml_L_81 : Cond.methodLink RL 81 yX11_keep ∈ gws := gws_at 940 (by decide +kernel) rfl
theorem im_X11_keep : Cond.instanceMethod yX11_keep ∈ gws := gws_at 941 (by decide +kernel) rfl
theorem se_11_X11_keep : ∀ ci ∈ [11], ∃ (C : String) (T : u_T) (N : Nat), xclasses[ci]? = some (C, T, N) ∧ Cond.selects C yX11_keep yX11_keep ∈ gws := fun ci hc => by
  cases List.mem_singleton.mp hc
  exact ⟨RX11, TX11, 19, rfl, gws_at 942 (by decide +kernel) rfl⟩
theorem ml_L_84 : Cond.methodLink RL 84 yX12_keep ∈ gws := gws_at 1756 (by decide +kernel) rfl
theorem im_X12_keep : Cond.instanceMethod yX12_keep ∈ gws := gws_at 1757 (by decide +kernel) rfl
theorem se_12_X12_keep : ∀ ci ∈ [12], ∃ (C : String) (T : u_T) (N : Nat), xclasses[ci]? = some (C, T, N) ∧ Cond.selects C yX12_keep yX12_keep ∈ gws := fun ci hc => by
  cases List.mem_singleton.mp hc
  exact ⟨RX12, TX12, 57, rfl, gws_at 1758 (by decide +kernel) rfl⟩
theorem ml_L_85 : Cond.methodLink RL 85 yX11_give ∈ gws := gws_at 944 (by decide +kernel) rfl
theorem im_X11_give : Cond.instanceMethod yX11_give ∈ gws := gws_at 945 (by decide +kernel) rfl
theorem se_11_X11_give : ∀ ci ∈ [11], ∃ (C : String) (T : u_T) (N : Nat), xclasses[ci]? = some (C, T, N) ∧ Cond.selects C yX11_give yX11_give ∈ gws := fun ci hc => by
  cases List.mem_singleton.mp hc
  exact ⟨RX11, TX11, 19, rfl, gws_at 946 (by decide +kernel) rfl⟩
theorem ml_L_88 : Cond.methodLink RL 88 yX12_give ∈ gws := gws_at 1760 (by decide +kernel) rfl
theorem im_X12_give : Cond.instanceMethod yX12_give ∈ gws := gws_at 1761 (by decide +kernel) rfl
theorem se_12_X12_give : ∀ ci ∈ [12], ∃ (C : String) (T : u_T) (N : Nat), xclasses[ci]? = some (C, T, N) ∧ Cond.selects C yX12_give yX12_give ∈ gws := fun ci hc => by
  cases List.mem_singleton.mp hc
  exact ⟨RX12, TX12, 57, rfl, gws_at 1762 (by decide +kernel) rfl⟩
theorem ml_L_91 : Cond.methodLink RL 91 yX11_years ∈ gws := gws_at 948 (by decide +kernel) rfl
theorem im_X11_years : Cond.instanceMethod yX11_years ∈ gws := gws_at 949 (by decide +kernel) rfl
theorem se_11_X11_years : ∀ ci ∈ [11], ∃ (C : String) (T : u_T) (N : Nat), xclasses[ci]? = some (C, T, N) ∧ Cond.selects C yX11_years yX11_years ∈ gws := fun ci hc => by
  cases List.mem_singleton.mp hc
  exact ⟨RX11, TX11, 19, rfl, gws_at 950 (by decide +kernel) rfl⟩
theorem ml_L_95 : Cond.methodLink RL 95 yX12_years ∈ gws := gws_at 1765 (by decide +kernel) rfl
theorem im_X12_years : Cond.instanceMethod yX12_years ∈ gws := gws_at 1766 (by decide +kernel) rfl
theorem se_12_X12_years : ∀ ci ∈ [12], ∃ (C : String) (T : u_T) (N : Nat), xclasses[ci]? = some (C, T, N) ∧ Cond.selects C yX12_years yX12_years ∈ gws := fun ci hc => by
  cases List.mem_singleton.mp hc
  exact ⟨RX12, TX12, 57, rfl, gws_at 1767 (by decide +kernel) rfl⟩
theorem ml_L_96 : Cond.methodLink RL 96 yX11_status ∈ gws := gws_at 964 (by decide +kernel) rfl
theorem im_X11_status : Cond.instanceMethod yX11_status ∈ gws := gws_at 965 (by decide +kernel) rfl
theorem se_11_X11_status : ∀ ci ∈ [11], ∃ (C : String) (T : u_T) (N : Nat), xclasses[ci]? = some (C, T, N) ∧ Cond.selects C yX11_status yX11_status ∈ gws := fun ci hc => by
  cases List.mem_singleton.mp hc
  exact ⟨RX11, TX11, 19, rfl, gws_at 966 (by decide +kernel) rfl⟩
theorem ml_L_99 : Cond.methodLink RL 99 yX12_status ∈ gws := gws_at 1776 (by decide +kernel) rfl
theorem im_X12_status : Cond.instanceMethod yX12_status ∈ gws := gws_at 1777 (by decide +kernel) rfl
theorem se_12_X12_status : ∀ ci ∈ [12], ∃ (C : String) (T : u_T) (N : Nat), xclasses[ci]? = some (C, T, N) ∧ Cond.selects C yX12_status yX12_status ∈ gws := fun ci hc => by
  cases List.mem_singleton.mp hc
  exact ⟨RX12, TX12, 57, rfl, gws_at 1778 (by decide +kernel) rfl⟩
theorem ml_L_100 : Cond.methodLink RL 100 yX11_undo ∈ gws := gws_at 968 (by decide +kernel) rfl
theorem im_X11_undo : Cond.instanceMethod yX11_undo ∈ gws := gws_at 969 (by decide +kernel) rfl
theorem se_11_X11_undo : ∀ ci ∈ [11], ∃ (C : String) (T : u_T) (N : Nat), xclasses[ci]? = some (C, T, N) ∧ Cond.selects C yX11_undo yX11_undo ∈ gws := fun ci hc => by
  cases List.mem_singleton.mp hc
  exact ⟨RX11, TX11, 19, rfl, gws_at 970 (by decide +kernel) rfl⟩
theorem ml_L_103 : Cond.methodLink RL 103 yX12_undo ∈ gws := gws_at 1781 (by decide +kernel) rfl
theorem im_X12_undo : Cond.instanceMethod yX12_undo ∈ gws := gws_at 1782 (by decide +kernel) rfl
theorem se_12_X12_undo : ∀ ci ∈ [12], ∃ (C : String) (T : u_T) (N : Nat), xclasses[ci]? = some (C, T, N) ∧ Cond.selects C yX12_undo yX12_undo ∈ gws := fun ci hc => by
  cases List.mem_singleton.mp hc
  exact ⟨RX12, TX12, 57, rfl, gws_at 1783 (by decide +kernel) rfl⟩
theorem ml_L_104 : Cond.methodLink RL 104 yX11_log ∈ gws := gws_at 976 (by decide +kernel) rfl
theorem im_X11_log : Cond.instanceMethod yX11_log ∈ gws := gws_at 977 (by decide +kernel) rfl
theorem se_11_X11_log : ∀ ci ∈ [11], ∃ (C : String) (T : u_T) (N : Nat), xclasses[ci]? = some (C, T, N) ∧ Cond.selects C yX11_log yX11_log ∈ gws := fun ci hc => by
  cases List.mem_singleton.mp hc
  exact ⟨RX11, TX11, 19, rfl, gws_at 978 (by decide +kernel) rfl⟩
theorem ml_L_107 : Cond.methodLink RL 107 yX12_log ∈ gws := gws_at 1785 (by decide +kernel) rfl
theorem im_X12_log : Cond.instanceMethod yX12_log ∈ gws := gws_at 1786 (by decide +kernel) rfl
theorem se_12_X12_log : ∀ ci ∈ [12], ∃ (C : String) (T : u_T) (N : Nat), xclasses[ci]? = some (C, T, N) ∧ Cond.selects C yX12_log yX12_log ∈ gws := fun ci hc => by
  cases List.mem_singleton.mp hc
  exact ⟨RX12, TX12, 57, rfl, gws_at 1787 (by decide +kernel) rfl⟩
theorem ml_L_108 : Cond.methodLink RL 108 yX11_after ∈ gws := gws_at 988 (by decide +kernel) rfl
theorem im_X11_after : Cond.instanceMethod yX11_after ∈ gws := gws_at 989 (by decide +kernel) rfl
theorem se_11_X11_after : ∀ ci ∈ [11], ∃ (C : String) (T : u_T) (N : Nat), xclasses[ci]? = some (C, T, N) ∧ Cond.selects C yX11_after yX11_after ∈ gws := fun ci hc => by
  cases List.mem_singleton.mp hc
  exact ⟨RX11, TX11, 19, rfl, gws_at 990 (by decide +kernel) rfl⟩
theorem ml_L_112 : Cond.methodLink RL 112 yX12_after ∈ gws := gws_at 1789 (by decide +kernel) rfl
theorem im_X12_after : Cond.instanceMethod yX12_after ∈ gws := gws_at 1790 (by decide +kernel) rfl
theorem se_12_X12_after : ∀ ci ∈ [12], ∃ (C : String) (T : u_T) (N : Nat), xclasses[ci]? = some (C, T, N) ∧ Cond.selects C yX12_after yX12_after ∈ gws := fun ci hc => by
  cases List.mem_singleton.mp hc
  exact ⟨RX12, TX12, 57, rfl, gws_at 1791 (by decide +kernel) rfl⟩
theorem ml_L_113 : Cond.methodLink RL 113 yX11_worthAfter ∈ gws := gws_at 1002 (by decide +kernel) rfl
theorem im_X11_worthAfter : Cond.instanceMethod yX11_worthAfter ∈ gws := gws_at 1003 (by decide +kernel) rfl
theorem se_11_X11_worthAfter : ∀ ci ∈ [11], ∃ (C : String) (T : u_T) (N : Nat), xclasses[ci]? = some (C, T, N) ∧ Cond.selects C yX11_worthAfter yX11_worthAfter ∈ gws := fun ci hc => by
  cases List.mem_singleton.mp hc
  exact ⟨RX11, TX11, 19, rfl, gws_at 1004 (by decide +kernel) rfl⟩
theorem ml_L_116 : Cond.methodLink RL 116 yX12_worthAfter ∈ gws := gws_at 1805 (by decide +kernel) rfl
theorem im_X12_worthAfter : Cond.instanceMethod yX12_worthAfter ∈ gws := gws_at 1806 (by decide +kernel) rfl
theorem se_12_X12_worthAfter : ∀ ci ∈ [12], ∃ (C : String) (T : u_T) (N : Nat), xclasses[ci]? = some (C, T, N) ∧ Cond.selects C yX12_worthAfter yX12_worthAfter ∈ gws := fun ci hc => by
  cases List.mem_singleton.mp hc
  exact ⟨RX12, TX12, 57, rfl, gws_at 1807 (by decide +kernel) rfl⟩
theorem ml_L_117 : Cond.methodLink RL 117 yX11_again ∈ gws := gws_at 1006 (by decide +kernel) rfl
theorem im_X11_again : Cond.instanceMethod yX11_again ∈ gws := gws_at 1007 (by decide +kernel) rfl
theorem se_11_X11_again : ∀ ci ∈ [11], ∃ (C : String) (T : u_T) (N : Nat), xclasses[ci]? = some (C, T, N) ∧ Cond.selects C yX11_again yX11_again ∈ gws := fun ci hc => by
  cases List.mem_singleton.mp hc
  exact ⟨RX11, TX11, 19, rfl, gws_at 1008 (by decide +kernel) rfl⟩
theorem ml_L_120 : Cond.methodLink RL 120 yX12_again ∈ gws := gws_at 1809 (by decide +kernel) rfl
theorem im_X12_again : Cond.instanceMethod yX12_again ∈ gws := gws_at 1810 (by decide +kernel) rfl
theorem se_12_X12_again : ∀ ci ∈ [12], ∃ (C : String) (T : u_T) (N : Nat), xclasses[ci]? = some (C, T, N) ∧ Cond.selects C yX12_again yX12_again ∈ gws := fun ci hc => by
  cases List.mem_singleton.mp hc
  exact ⟨RX12, TX12, 57, rfl, gws_at 1811 (by decide +kernel) rfl⟩
theorem ml_L_121 : Cond.methodLink RL 121 yX11_like ∈ gws := gws_at 1018 (by decide +kernel) rfl
theorem im_X11_like : Cond.instanceMethod yX11_like ∈ gws := gws_at 1019 (by decide +kernel) rfl
theorem se_11_X11_like : ∀ ci ∈ [11], ∃ (C : String) (T : u_T) (N : Nat), xclasses[ci]? = some (C, T, N) ∧ Cond.selects C yX11_like yX11_like ∈ gws := fun ci hc => by
  cases List.mem_singleton.mp hc
  exact ⟨RX11, TX11, 19, rfl, gws_at 1020 (by decide +kernel) rfl⟩
theorem ml_L_124 : Cond.methodLink RL 124 yX12_like ∈ gws := gws_at 1816 (by decide +kernel) rfl
theorem im_X12_like : Cond.instanceMethod yX12_like ∈ gws := gws_at 1817 (by decide +kernel) rfl
theorem se_12_X12_like : ∀ ci ∈ [12], ∃ (C : String) (T : u_T) (N : Nat), xclasses[ci]? = some (C, T, N) ∧ Cond.selects C yX12_like yX12_like ∈ gws := fun ci hc => by
  cases List.mem_singleton.mp hc
  exact ⟨RX12, TX12, 57, rfl, gws_at 1818 (by decide +kernel) rfl⟩
theorem ml_L_125 : Cond.methodLink RL 125 yX11_reach ∈ gws := gws_at 1030 (by decide +kernel) rfl
theorem im_X11_reach : Cond.instanceMethod yX11_reach ∈ gws := gws_at 1031 (by decide +kernel) rfl
theorem se_11_X11_reach : ∀ ci ∈ [11], ∃ (C : String) (T : u_T) (N : Nat), xclasses[ci]? = some (C, T, N) ∧ Cond.selects C yX11_reach yX11_reach ∈ gws := fun ci hc => by
  cases List.mem_singleton.mp hc
  exact ⟨RX11, TX11, 19, rfl, gws_at 1032 (by decide +kernel) rfl⟩
theorem ml_L_128 : Cond.methodLink RL 128 yX12_reach ∈ gws := gws_at 1824 (by decide +kernel) rfl
theorem im_X12_reach : Cond.instanceMethod yX12_reach ∈ gws := gws_at 1825 (by decide +kernel) rfl
theorem se_12_X12_reach : ∀ ci ∈ [12], ∃ (C : String) (T : u_T) (N : Nat), xclasses[ci]? = some (C, T, N) ∧ Cond.selects C yX12_reach yX12_reach ∈ gws := fun ci hc => by
  cases List.mem_singleton.mp hc
  exact ⟨RX12, TX12, 57, rfl, gws_at 1826 (by decide +kernel) rfl⟩
theorem ml_L_129 : Cond.methodLink RL 129 yX11_straight ∈ gws := gws_at 1066 (by decide +kernel) rfl
theorem im_X11_straight : Cond.instanceMethod yX11_straight ∈ gws := gws_at 1067 (by decide +kernel) rfl
theorem se_11_X11_straight : ∀ ci ∈ [11], ∃ (C : String) (T : u_T) (N : Nat), xclasses[ci]? = some (C, T, N) ∧ Cond.selects C yX11_straight yX11_straight ∈ gws := fun ci hc => by
  cases List.mem_singleton.mp hc
  exact ⟨RX11, TX11, 19, rfl, gws_at 1068 (by decide +kernel) rfl⟩
theorem ml_L_132 : Cond.methodLink RL 132 yX12_straight ∈ gws := gws_at 1845 (by decide +kernel) rfl
theorem im_X12_straight : Cond.instanceMethod yX12_straight ∈ gws := gws_at 1846 (by decide +kernel) rfl
theorem se_12_X12_straight : ∀ ci ∈ [12], ∃ (C : String) (T : u_T) (N : Nat), xclasses[ci]? = some (C, T, N) ∧ Cond.selects C yX12_straight yX12_straight ∈ gws := fun ci hc => by
  cases List.mem_singleton.mp hc
  exact ⟨RX12, TX12, 57, rfl, gws_at 1847 (by decide +kernel) rfl⟩
theorem ml_L_133 : Cond.methodLink RL 133 yX11_fewest ∈ gws := gws_at 1070 (by decide +kernel) rfl
theorem im_X11_fewest : Cond.instanceMethod yX11_fewest ∈ gws := gws_at 1071 (by decide +kernel) rfl
theorem se_11_X11_fewest : ∀ ci ∈ [11], ∃ (C : String) (T : u_T) (N : Nat), xclasses[ci]? = some (C, T, N) ∧ Cond.selects C yX11_fewest yX11_fewest ∈ gws := fun ci hc => by
  cases List.mem_singleton.mp hc
  exact ⟨RX11, TX11, 19, rfl, gws_at 1072 (by decide +kernel) rfl⟩
theorem ml_L_136 : Cond.methodLink RL 136 yX12_fewest ∈ gws := gws_at 1849 (by decide +kernel) rfl
theorem im_X12_fewest : Cond.instanceMethod yX12_fewest ∈ gws := gws_at 1850 (by decide +kernel) rfl
theorem se_12_X12_fewest : ∀ ci ∈ [12], ∃ (C : String) (T : u_T) (N : Nat), xclasses[ci]? = some (C, T, N) ∧ Cond.selects C yX12_fewest yX12_fewest ∈ gws := fun ci hc => by
  cases List.mem_singleton.mp hc
  exact ⟨RX12, TX12, 57, rfl, gws_at 1851 (by decide +kernel) rfl⟩
theorem ml_L_137 : Cond.methodLink RL 137 yX11_ring ∈ gws := gws_at 1074 (by decide +kernel) rfl
theorem im_X11_ring : Cond.instanceMethod yX11_ring ∈ gws := gws_at 1075 (by decide +kernel) rfl
theorem se_11_X11_ring : ∀ ci ∈ [11], ∃ (C : String) (T : u_T) (N : Nat), xclasses[ci]? = some (C, T, N) ∧ Cond.selects C yX11_ring yX11_ring ∈ gws := fun ci hc => by
  cases List.mem_singleton.mp hc
  exact ⟨RX11, TX11, 19, rfl, gws_at 1076 (by decide +kernel) rfl⟩
theorem ml_L_140 : Cond.methodLink RL 140 yX12_ring ∈ gws := gws_at 1853 (by decide +kernel) rfl
theorem im_X12_ring : Cond.instanceMethod yX12_ring ∈ gws := gws_at 1854 (by decide +kernel) rfl
theorem se_12_X12_ring : ∀ ci ∈ [12], ∃ (C : String) (T : u_T) (N : Nat), xclasses[ci]? = some (C, T, N) ∧ Cond.selects C yX12_ring yX12_ring ∈ gws := fun ci hc => by
  cases List.mem_singleton.mp hc
  exact ⟨RX12, TX12, 57, rfl, gws_at 1855 (by decide +kernel) rfl⟩
theorem ml_L_141 : Cond.methodLink RL 141 yX11_chain ∈ gws := gws_at 1082 (by decide +kernel) rfl
theorem im_X11_chain : Cond.instanceMethod yX11_chain ∈ gws := gws_at 1083 (by decide +kernel) rfl
theorem se_11_X11_chain : ∀ ci ∈ [11], ∃ (C : String) (T : u_T) (N : Nat), xclasses[ci]? = some (C, T, N) ∧ Cond.selects C yX11_chain yX11_chain ∈ gws := fun ci hc => by
  cases List.mem_singleton.mp hc
  exact ⟨RX11, TX11, 19, rfl, gws_at 1084 (by decide +kernel) rfl⟩
theorem ml_L_144 : Cond.methodLink RL 144 yX12_chain ∈ gws := gws_at 1857 (by decide +kernel) rfl
theorem im_X12_chain : Cond.instanceMethod yX12_chain ∈ gws := gws_at 1858 (by decide +kernel) rfl
theorem se_12_X12_chain : ∀ ci ∈ [12], ∃ (C : String) (T : u_T) (N : Nat), xclasses[ci]? = some (C, T, N) ∧ Cond.selects C yX12_chain yX12_chain ∈ gws := fun ci hc => by
  cases List.mem_singleton.mp hc
  exact ⟨RX12, TX12, 57, rfl, gws_at 1859 (by decide +kernel) rfl⟩
theorem ml_L_145 : Cond.methodLink RL 145 yX11_seen ∈ gws := gws_at 1086 (by decide +kernel) rfl
theorem im_X11_seen : Cond.instanceMethod yX11_seen ∈ gws := gws_at 1087 (by decide +kernel) rfl
theorem se_11_X11_seen : ∀ ci ∈ [11], ∃ (C : String) (T : u_T) (N : Nat), xclasses[ci]? = some (C, T, N) ∧ Cond.selects C yX11_seen yX11_seen ∈ gws := fun ci hc => by
  cases List.mem_singleton.mp hc
  exact ⟨RX11, TX11, 19, rfl, gws_at 1088 (by decide +kernel) rfl⟩
theorem ml_L_149 : Cond.methodLink RL 149 yX12_seen ∈ gws := gws_at 1861 (by decide +kernel) rfl
theorem im_X12_seen : Cond.instanceMethod yX12_seen ∈ gws := gws_at 1862 (by decide +kernel) rfl
theorem se_12_X12_seen : ∀ ci ∈ [12], ∃ (C : String) (T : u_T) (N : Nat), xclasses[ci]? = some (C, T, N) ∧ Cond.selects C yX12_seen yX12_seen ∈ gws := fun ci hc => by
  cases List.mem_singleton.mp hc
  exact ⟨RX12, TX12, 57, rfl, gws_at 1863 (by decide +kernel) rfl⟩
theorem ml_L_150 : Cond.methodLink RL 150 yX11_fits ∈ gws := gws_at 1094 (by decide +kernel) rfl
theorem ml_L_153 : Cond.methodLink RL 153 yX12_fits ∈ gws := gws_at 1867 (by decide +kernel) rfl
theorem ml_L_154 : Cond.methodLink RL 154 yX11_ask ∈ gws := gws_at 1107 (by decide +kernel) rfl
theorem im_X11_ask : Cond.instanceMethod yX11_ask ∈ gws := gws_at 1108 (by decide +kernel) rfl
theorem se_11_X11_ask : ∀ ci ∈ [11], ∃ (C : String) (T : u_T) (N : Nat), xclasses[ci]? = some (C, T, N) ∧ Cond.selects C yX11_ask yX11_ask ∈ gws := fun ci hc => by
  cases List.mem_singleton.mp hc
  exact ⟨RX11, TX11, 19, rfl, gws_at 1109 (by decide +kernel) rfl⟩
theorem ml_L_157 : Cond.methodLink RL 157 yX12_ask ∈ gws := gws_at 1879 (by decide +kernel) rfl
theorem im_X12_ask : Cond.instanceMethod yX12_ask ∈ gws := gws_at 1880 (by decide +kernel) rfl
theorem se_12_X12_ask : ∀ ci ∈ [12], ∃ (C : String) (T : u_T) (N : Nat), xclasses[ci]? = some (C, T, N) ∧ Cond.selects C yX12_ask yX12_ask ∈ gws := fun ci hc => by
  cases List.mem_singleton.mp hc
  exact ⟨RX12, TX12, 57, rfl, gws_at 1881 (by decide +kernel) rfl⟩
theorem ml_L_158 : Cond.methodLink RL 158 yX11_game ∈ gws := gws_at 1121 (by decide +kernel) rfl
theorem ml_L_161 : Cond.methodLink RL 161 yX12_game ∈ gws := gws_at 1884 (by decide +kernel) rfl
theorem im_X12_game : Cond.instanceMethod yX12_game ∈ gws := gws_at 1885 (by decide +kernel) rfl
theorem se_12_X12_game : ∀ ci ∈ [12], ∃ (C : String) (T : u_T) (N : Nat), xclasses[ci]? = some (C, T, N) ∧ Cond.selects C yX12_game yX12_game ∈ gws := fun ci hc => by
  cases List.mem_singleton.mp hc
  exact ⟨RX12, TX12, 57, rfl, gws_at 1886 (by decide +kernel) rfl⟩
theorem ml_L_162 : Cond.methodLink RL 162 yX11_rests ∈ gws := gws_at 1125 (by decide +kernel) rfl
theorem im_X11_rests : Cond.instanceMethod yX11_rests ∈ gws := gws_at 1126 (by decide +kernel) rfl
theorem se_11_X11_rests : ∀ ci ∈ [11], ∃ (C : String) (T : u_T) (N : Nat), xclasses[ci]? = some (C, T, N) ∧ Cond.selects C yX11_rests yX11_rests ∈ gws := fun ci hc => by
  cases List.mem_singleton.mp hc
  exact ⟨RX11, TX11, 19, rfl, gws_at 1127 (by decide +kernel) rfl⟩
theorem ml_L_165 : Cond.methodLink RL 165 yX12_rests ∈ gws := gws_at 1900 (by decide +kernel) rfl
theorem im_X12_rests : Cond.instanceMethod yX12_rests ∈ gws := gws_at 1901 (by decide +kernel) rfl
theorem se_12_X12_rests : ∀ ci ∈ [12], ∃ (C : String) (T : u_T) (N : Nat), xclasses[ci]? = some (C, T, N) ∧ Cond.selects C yX12_rests yX12_rests ∈ gws := fun ci hc => by
  cases List.mem_singleton.mp hc
  exact ⟨RX12, TX12, 57, rfl, gws_at 1902 (by decide +kernel) rfl⟩
theorem ml_L_166 : Cond.methodLink RL 166 yX11_odds ∈ gws := gws_at 1134 (by decide +kernel) rfl
theorem im_X11_odds : Cond.instanceMethod yX11_odds ∈ gws := gws_at 1135 (by decide +kernel) rfl
theorem se_11_X11_odds : ∀ ci ∈ [11], ∃ (C : String) (T : u_T) (N : Nat), xclasses[ci]? = some (C, T, N) ∧ Cond.selects C yX11_odds yX11_odds ∈ gws := fun ci hc => by
  cases List.mem_singleton.mp hc
  exact ⟨RX11, TX11, 19, rfl, gws_at 1136 (by decide +kernel) rfl⟩
theorem ml_L_169 : Cond.methodLink RL 169 yX12_odds ∈ gws := gws_at 1904 (by decide +kernel) rfl
theorem im_X12_odds : Cond.instanceMethod yX12_odds ∈ gws := gws_at 1905 (by decide +kernel) rfl
theorem se_12_X12_odds : ∀ ci ∈ [12], ∃ (C : String) (T : u_T) (N : Nat), xclasses[ci]? = some (C, T, N) ∧ Cond.selects C yX12_odds yX12_odds ∈ gws := fun ci hc => by
  cases List.mem_singleton.mp hc
  exact ⟨RX12, TX12, 57, rfl, gws_at 1906 (by decide +kernel) rfl⟩
theorem ml_L_170 : Cond.methodLink RL 170 yX11_shares ∈ gws := gws_at 1159 (by decide +kernel) rfl
theorem im_X11_shares : Cond.instanceMethod yX11_shares ∈ gws := gws_at 1160 (by decide +kernel) rfl
theorem se_11_X11_shares : ∀ ci ∈ [11], ∃ (C : String) (T : u_T) (N : Nat), xclasses[ci]? = some (C, T, N) ∧ Cond.selects C yX11_shares yX11_shares ∈ gws := fun ci hc => by
  cases List.mem_singleton.mp hc
  exact ⟨RX11, TX11, 19, rfl, gws_at 1161 (by decide +kernel) rfl⟩
theorem ml_L_173 : Cond.methodLink RL 173 yX12_shares ∈ gws := gws_at 1914 (by decide +kernel) rfl
theorem im_X12_shares : Cond.instanceMethod yX12_shares ∈ gws := gws_at 1915 (by decide +kernel) rfl
theorem se_12_X12_shares : ∀ ci ∈ [12], ∃ (C : String) (T : u_T) (N : Nat), xclasses[ci]? = some (C, T, N) ∧ Cond.selects C yX12_shares yX12_shares ∈ gws := fun ci hc => by
  cases List.mem_singleton.mp hc
  exact ⟨RX12, TX12, 57, rfl, gws_at 1916 (by decide +kernel) rfl⟩
theorem ml_L_174 : Cond.methodLink RL 174 yX11_all ∈ gws := gws_at 1163 (by decide +kernel) rfl
theorem im_X11_all : Cond.instanceMethod yX11_all ∈ gws := gws_at 1164 (by decide +kernel) rfl
theorem se_11_X11_all : ∀ ci ∈ [11], ∃ (C : String) (T : u_T) (N : Nat), xclasses[ci]? = some (C, T, N) ∧ Cond.selects C yX11_all yX11_all ∈ gws := fun ci hc => by
  cases List.mem_singleton.mp hc
  exact ⟨RX11, TX11, 19, rfl, gws_at 1165 (by decide +kernel) rfl⟩
theorem ml_L_177 : Cond.methodLink RL 177 yX12_all ∈ gws := gws_at 1919 (by decide +kernel) rfl
theorem im_X12_all : Cond.instanceMethod yX12_all ∈ gws := gws_at 1920 (by decide +kernel) rfl
theorem se_12_X12_all : ∀ ci ∈ [12], ∃ (C : String) (T : u_T) (N : Nat), xclasses[ci]? = some (C, T, N) ∧ Cond.selects C yX12_all yX12_all ∈ gws := fun ci hc => by
  cases List.mem_singleton.mp hc
  exact ⟨RX12, TX12, 57, rfl, gws_at 1921 (by decide +kernel) rfl⟩
theorem ml_L_178 : Cond.methodLink RL 178 yX11_image ∈ gws := gws_at 1188 (by decide +kernel) rfl
theorem im_X11_image : Cond.instanceMethod yX11_image ∈ gws := gws_at 1189 (by decide +kernel) rfl
theorem se_11_X11_image : ∀ ci ∈ [11], ∃ (C : String) (T : u_T) (N : Nat), xclasses[ci]? = some (C, T, N) ∧ Cond.selects C yX11_image yX11_image ∈ gws := fun ci hc => by
  cases List.mem_singleton.mp hc
  exact ⟨RX11, TX11, 19, rfl, gws_at 1190 (by decide +kernel) rfl⟩
theorem ml_L_181 : Cond.methodLink RL 181 yX12_image ∈ gws := gws_at 1951 (by decide +kernel) rfl
theorem im_X12_image : Cond.instanceMethod yX12_image ∈ gws := gws_at 1952 (by decide +kernel) rfl
theorem se_12_X12_image : ∀ ci ∈ [12], ∃ (C : String) (T : u_T) (N : Nat), xclasses[ci]? = some (C, T, N) ∧ Cond.selects C yX12_image yX12_image ∈ gws := fun ci hc => by
  cases List.mem_singleton.mp hc
  exact ⟨RX12, TX12, 57, rfl, gws_at 1953 (by decide +kernel) rfl⟩
theorem ml_L_182 : Cond.methodLink RL 182 yX11_back ∈ gws := gws_at 1201 (by decide +kernel) rfl
theorem im_X11_back : Cond.instanceMethod yX11_back ∈ gws := gws_at 1202 (by decide +kernel) rfl
theorem se_11_X11_back : ∀ ci ∈ [11], ∃ (C : String) (T : u_T) (N : Nat), xclasses[ci]? = some (C, T, N) ∧ Cond.selects C yX11_back yX11_back ∈ gws := fun ci hc => by
  cases List.mem_singleton.mp hc
  exact ⟨RX11, TX11, 19, rfl, gws_at 1203 (by decide +kernel) rfl⟩
theorem ml_L_185 : Cond.methodLink RL 185 yX12_back ∈ gws := gws_at 1955 (by decide +kernel) rfl
theorem im_X12_back : Cond.instanceMethod yX12_back ∈ gws := gws_at 1956 (by decide +kernel) rfl
theorem se_12_X12_back : ∀ ci ∈ [12], ∃ (C : String) (T : u_T) (N : Nat), xclasses[ci]? = some (C, T, N) ∧ Cond.selects C yX12_back yX12_back ∈ gws := fun ci hc => by
  cases List.mem_singleton.mp hc
  exact ⟨RX12, TX12, 57, rfl, gws_at 1957 (by decide +kernel) rfl⟩
theorem ml_L_186 : Cond.methodLink RL 186 yX11_count ∈ gws := gws_at 1210 (by decide +kernel) rfl
theorem im_X11_count : Cond.instanceMethod yX11_count ∈ gws := gws_at 1211 (by decide +kernel) rfl
theorem se_11_X11_count : ∀ ci ∈ [11], ∃ (C : String) (T : u_T) (N : Nat), xclasses[ci]? = some (C, T, N) ∧ Cond.selects C yX11_count yX11_count ∈ gws := fun ci hc => by
  cases List.mem_singleton.mp hc
  exact ⟨RX11, TX11, 19, rfl, gws_at 1212 (by decide +kernel) rfl⟩
theorem ml_L_189 : Cond.methodLink RL 189 yX12_count ∈ gws := gws_at 1959 (by decide +kernel) rfl
theorem im_X12_count : Cond.instanceMethod yX12_count ∈ gws := gws_at 1960 (by decide +kernel) rfl
theorem se_12_X12_count : ∀ ci ∈ [12], ∃ (C : String) (T : u_T) (N : Nat), xclasses[ci]? = some (C, T, N) ∧ Cond.selects C yX12_count yX12_count ∈ gws := fun ci hc => by
  cases List.mem_singleton.mp hc
  exact ⟨RX12, TX12, 57, rfl, gws_at 1961 (by decide +kernel) rfl⟩
theorem ml_L_15 : Cond.methodLink RL 15 yX11_init ∈ gws := gws_at 134 (by decide +kernel) rfl
theorem im_X11_init : Cond.instanceMethod yX11_init ∈ gws := gws_at 135 (by decide +kernel) rfl
theorem ml_L_18 : Cond.methodLink RL 18 yX12_init ∈ gws := gws_at 1290 (by decide +kernel) rfl
theorem im_X12_init : Cond.instanceMethod yX12_init ∈ gws := gws_at 1291 (by decide +kernel) rfl
