/-! ===== the reference's cells ===== -/
/-- the reference at A: its arrays lie behind it -/
def MZ (σ : PH) (A : Nat) : Prop := sh σ A = (1, 11) ∧ gR σ 705 A = some (A + 1) ∧ sh σ (A + 1) = (4, 8) ∧ gR σ 706 A = some (A + 2) ∧ sh σ (A + 2) = (2, 8) ∧ gR σ 707 A = some (A + 3) ∧ sh σ (A + 3) = (3, 32768) ∧ gR σ 708 A = some (A + 4) ∧ sh σ (A + 4) = (4, 8) ∧ gR σ 709 A = some (A + 5) ∧ sh σ (A + 5) = (2, 8) ∧ gR σ 710 A = some (A + 6) ∧ sh σ (A + 6) = (2, 8) ∧ gR σ 711 A = some (A + 7) ∧ sh σ (A + 7) = (2, 320) ∧ gR σ 713 A = some (A + 8) ∧ sh σ (A + 8) = (2, 12) ∧ gR σ 714 A = some (A + 9) ∧ sh σ (A + 9) = (2, 12) ∧ gR σ 715 A = some (A + 10) ∧ sh σ (A + 10) = (2, 12) ∧ gR σ 716 A = some (A + 11) ∧ sh σ (A + 11) = (2, 12) ∧ gR σ 717 A = some (A + 12) ∧ sh σ (A + 12) = (2, 12) ∧ gR σ 718 A = some (A + 13) ∧ sh σ (A + 13) = (2, 48) ∧ gR σ 720 A = some (A + 14) ∧ sh σ (A + 14) = (2, 11) ∧ gR σ 721 A = some (A + 15) ∧ sh σ (A + 15) = (2, 11) ∧ gR σ 722 A = some (A + 16) ∧ sh σ (A + 16) = (2, 44) ∧ gR σ 723 A = some (A + 17) ∧ sh σ (A + 17) = (2, 11) ∧ gR σ 724 A = some (A + 18) ∧ sh σ (A + 18) = (3, 704) ∧ gR σ 725 A = some (A + 19) ∧ sh σ (A + 19) = (2, 88) ∧ gR σ 726 A = some (A + 20) ∧ sh σ (A + 20) = (2, 88) ∧ gR σ 728 A = some (A + 21) ∧ sh σ (A + 21) = (2, 7) ∧ gR σ 729 A = some (A + 22) ∧ sh σ (A + 22) = (2, 7) ∧ gR σ 730 A = some (A + 23) ∧ sh σ (A + 23) = (3, 448) ∧ gR σ 731 A = some (A + 24) ∧ sh σ (A + 24) = (2, 8) ∧ gR σ 732 A = some (A + 25) ∧ sh σ (A + 25) = (2, 8) ∧ gR σ 733 A = some (A + 26) ∧ sh σ (A + 26) = (2, 8) ∧ gR σ 734 A = some (A + 27) ∧ sh σ (A + 27) = (4, 8) ∧ gR σ 735 A = some (A + 28) ∧ sh σ (A + 28) = (2, 8) ∧ gR σ 736 A = some (A + 29) ∧ sh σ (A + 29) = (2, 8) ∧ gR σ 737 A = some (A + 30) ∧ sh σ (A + 30) = (2, 24) ∧ gR σ 738 A = some (A + 31) ∧ sh σ (A + 31) = (2, 24) ∧ gR σ 739 A = some (A + 32) ∧ sh σ (A + 32) = (2, 8) ∧ gR σ 740 A = some (A + 33) ∧ sh σ (A + 33) = (2, 24) ∧ gR σ 741 A = some (A + 34) ∧ sh σ (A + 34) = (2, 24) ∧ gR σ 743 A = some (A + 35) ∧ sh σ (A + 35) = (3, 4096) ∧ gR σ 746 A = some (A + 36) ∧ sh σ (A + 36) = (2, 64) ∧ gR σ 747 A = some (A + 37) ∧ sh σ (A + 37) = (2, 64) ∧ gR σ 752 A = some (A + 38) ∧ sh σ (A + 38) = (4, 8) ∧ gR σ 755 A = some (A + 39) ∧ sh σ (A + 39) = (3, 256) ∧ gR σ 757 A = some (A + 40) ∧ sh σ (A + 40) = (2, 512) ∧ gR σ 758 A = some (A + 41) ∧ sh σ (A + 41) = (4, 12)
section MZs
variable {σ : PH} {A : Nat}
theorem z_705 (h : MZ σ A) : gR σ 705 A = some (A + 1) := h.2.1
theorem s_705 (h : MZ σ A) : sh σ (A + 1) = (4, 8) := h.2.2.1
theorem z_706 (h : MZ σ A) : gR σ 706 A = some (A + 2) := h.2.2.2.1
theorem s_706 (h : MZ σ A) : sh σ (A + 2) = (2, 8) := h.2.2.2.2.1
theorem z_707 (h : MZ σ A) : gR σ 707 A = some (A + 3) := h.2.2.2.2.2.1
theorem s_707 (h : MZ σ A) : sh σ (A + 3) = (3, 32768) := h.2.2.2.2.2.2.1
theorem z_708 (h : MZ σ A) : gR σ 708 A = some (A + 4) := h.2.2.2.2.2.2.2.1
theorem s_708 (h : MZ σ A) : sh σ (A + 4) = (4, 8) := h.2.2.2.2.2.2.2.2.1
theorem z_709 (h : MZ σ A) : gR σ 709 A = some (A + 5) := h.2.2.2.2.2.2.2.2.2.1
theorem s_709 (h : MZ σ A) : sh σ (A + 5) = (2, 8) := h.2.2.2.2.2.2.2.2.2.2.1
theorem z_710 (h : MZ σ A) : gR σ 710 A = some (A + 6) := h.2.2.2.2.2.2.2.2.2.2.2.1
theorem s_710 (h : MZ σ A) : sh σ (A + 6) = (2, 8) := h.2.2.2.2.2.2.2.2.2.2.2.2.1
theorem z_711 (h : MZ σ A) : gR σ 711 A = some (A + 7) := h.2.2.2.2.2.2.2.2.2.2.2.2.2.1
theorem s_711 (h : MZ σ A) : sh σ (A + 7) = (2, 320) := h.2.2.2.2.2.2.2.2.2.2.2.2.2.2.1
theorem z_713 (h : MZ σ A) : gR σ 713 A = some (A + 8) := h.2.2.2.2.2.2.2.2.2.2.2.2.2.2.2.1
theorem s_713 (h : MZ σ A) : sh σ (A + 8) = (2, 12) := h.2.2.2.2.2.2.2.2.2.2.2.2.2.2.2.2.1
theorem z_714 (h : MZ σ A) : gR σ 714 A = some (A + 9) := h.2.2.2.2.2.2.2.2.2.2.2.2.2.2.2.2.2.1
theorem s_714 (h : MZ σ A) : sh σ (A + 9) = (2, 12) := h.2.2.2.2.2.2.2.2.2.2.2.2.2.2.2.2.2.2.1
theorem z_715 (h : MZ σ A) : gR σ 715 A = some (A + 10) := h.2.2.2.2.2.2.2.2.2.2.2.2.2.2.2.2.2.2.2.1
theorem s_715 (h : MZ σ A) : sh σ (A + 10) = (2, 12) := h.2.2.2.2.2.2.2.2.2.2.2.2.2.2.2.2.2.2.2.2.1
theorem z_716 (h : MZ σ A) : gR σ 716 A = some (A + 11) := h.2.2.2.2.2.2.2.2.2.2.2.2.2.2.2.2.2.2.2.2.2.1
theorem s_716 (h : MZ σ A) : sh σ (A + 11) = (2, 12) := h.2.2.2.2.2.2.2.2.2.2.2.2.2.2.2.2.2.2.2.2.2.2.1
theorem z_717 (h : MZ σ A) : gR σ 717 A = some (A + 12) := h.2.2.2.2.2.2.2.2.2.2.2.2.2.2.2.2.2.2.2.2.2.2.2.1
theorem s_717 (h : MZ σ A) : sh σ (A + 12) = (2, 12) := h.2.2.2.2.2.2.2.2.2.2.2.2.2.2.2.2.2.2.2.2.2.2.2.2.1
theorem z_718 (h : MZ σ A) : gR σ 718 A = some (A + 13) := h.2.2.2.2.2.2.2.2.2.2.2.2.2.2.2.2.2.2.2.2.2.2.2.2.2.1
theorem s_718 (h : MZ σ A) : sh σ (A + 13) = (2, 48) := h.2.2.2.2.2.2.2.2.2.2.2.2.2.2.2.2.2.2.2.2.2.2.2.2.2.2.1
theorem z_720 (h : MZ σ A) : gR σ 720 A = some (A + 14) := h.2.2.2.2.2.2.2.2.2.2.2.2.2.2.2.2.2.2.2.2.2.2.2.2.2.2.2.1
theorem s_720 (h : MZ σ A) : sh σ (A + 14) = (2, 11) := h.2.2.2.2.2.2.2.2.2.2.2.2.2.2.2.2.2.2.2.2.2.2.2.2.2.2.2.2.1
theorem z_721 (h : MZ σ A) : gR σ 721 A = some (A + 15) := h.2.2.2.2.2.2.2.2.2.2.2.2.2.2.2.2.2.2.2.2.2.2.2.2.2.2.2.2.2.1
theorem s_721 (h : MZ σ A) : sh σ (A + 15) = (2, 11) := h.2.2.2.2.2.2.2.2.2.2.2.2.2.2.2.2.2.2.2.2.2.2.2.2.2.2.2.2.2.2.1
theorem z_722 (h : MZ σ A) : gR σ 722 A = some (A + 16) := h.2.2.2.2.2.2.2.2.2.2.2.2.2.2.2.2.2.2.2.2.2.2.2.2.2.2.2.2.2.2.2.1
theorem s_722 (h : MZ σ A) : sh σ (A + 16) = (2, 44) := h.2.2.2.2.2.2.2.2.2.2.2.2.2.2.2.2.2.2.2.2.2.2.2.2.2.2.2.2.2.2.2.2.1
theorem z_723 (h : MZ σ A) : gR σ 723 A = some (A + 17) := h.2.2.2.2.2.2.2.2.2.2.2.2.2.2.2.2.2.2.2.2.2.2.2.2.2.2.2.2.2.2.2.2.2.1
theorem s_723 (h : MZ σ A) : sh σ (A + 17) = (2, 11) := h.2.2.2.2.2.2.2.2.2.2.2.2.2.2.2.2.2.2.2.2.2.2.2.2.2.2.2.2.2.2.2.2.2.2.1
theorem z_724 (h : MZ σ A) : gR σ 724 A = some (A + 18) := h.2.2.2.2.2.2.2.2.2.2.2.2.2.2.2.2.2.2.2.2.2.2.2.2.2.2.2.2.2.2.2.2.2.2.2.1
theorem s_724 (h : MZ σ A) : sh σ (A + 18) = (3, 704) := h.2.2.2.2.2.2.2.2.2.2.2.2.2.2.2.2.2.2.2.2.2.2.2.2.2.2.2.2.2.2.2.2.2.2.2.2.1
theorem z_725 (h : MZ σ A) : gR σ 725 A = some (A + 19) := h.2.2.2.2.2.2.2.2.2.2.2.2.2.2.2.2.2.2.2.2.2.2.2.2.2.2.2.2.2.2.2.2.2.2.2.2.2.1
theorem s_725 (h : MZ σ A) : sh σ (A + 19) = (2, 88) := h.2.2.2.2.2.2.2.2.2.2.2.2.2.2.2.2.2.2.2.2.2.2.2.2.2.2.2.2.2.2.2.2.2.2.2.2.2.2.1
theorem z_726 (h : MZ σ A) : gR σ 726 A = some (A + 20) := h.2.2.2.2.2.2.2.2.2.2.2.2.2.2.2.2.2.2.2.2.2.2.2.2.2.2.2.2.2.2.2.2.2.2.2.2.2.2.2.1
theorem s_726 (h : MZ σ A) : sh σ (A + 20) = (2, 88) := h.2.2.2.2.2.2.2.2.2.2.2.2.2.2.2.2.2.2.2.2.2.2.2.2.2.2.2.2.2.2.2.2.2.2.2.2.2.2.2.2.1
theorem z_728 (h : MZ σ A) : gR σ 728 A = some (A + 21) := h.2.2.2.2.2.2.2.2.2.2.2.2.2.2.2.2.2.2.2.2.2.2.2.2.2.2.2.2.2.2.2.2.2.2.2.2.2.2.2.2.2.1
theorem s_728 (h : MZ σ A) : sh σ (A + 21) = (2, 7) := h.2.2.2.2.2.2.2.2.2.2.2.2.2.2.2.2.2.2.2.2.2.2.2.2.2.2.2.2.2.2.2.2.2.2.2.2.2.2.2.2.2.2.1
theorem z_729 (h : MZ σ A) : gR σ 729 A = some (A + 22) := h.2.2.2.2.2.2.2.2.2.2.2.2.2.2.2.2.2.2.2.2.2.2.2.2.2.2.2.2.2.2.2.2.2.2.2.2.2.2.2.2.2.2.2.1
theorem s_729 (h : MZ σ A) : sh σ (A + 22) = (2, 7) := h.2.2.2.2.2.2.2.2.2.2.2.2.2.2.2.2.2.2.2.2.2.2.2.2.2.2.2.2.2.2.2.2.2.2.2.2.2.2.2.2.2.2.2.2.1
theorem z_730 (h : MZ σ A) : gR σ 730 A = some (A + 23) := h.2.2.2.2.2.2.2.2.2.2.2.2.2.2.2.2.2.2.2.2.2.2.2.2.2.2.2.2.2.2.2.2.2.2.2.2.2.2.2.2.2.2.2.2.2.1
theorem s_730 (h : MZ σ A) : sh σ (A + 23) = (3, 448) := h.2.2.2.2.2.2.2.2.2.2.2.2.2.2.2.2.2.2.2.2.2.2.2.2.2.2.2.2.2.2.2.2.2.2.2.2.2.2.2.2.2.2.2.2.2.2.1
theorem z_731 (h : MZ σ A) : gR σ 731 A = some (A + 24) := h.2.2.2.2.2.2.2.2.2.2.2.2.2.2.2.2.2.2.2.2.2.2.2.2.2.2.2.2.2.2.2.2.2.2.2.2.2.2.2.2.2.2.2.2.2.2.2.1
theorem s_731 (h : MZ σ A) : sh σ (A + 24) = (2, 8) := h.2.2.2.2.2.2.2.2.2.2.2.2.2.2.2.2.2.2.2.2.2.2.2.2.2.2.2.2.2.2.2.2.2.2.2.2.2.2.2.2.2.2.2.2.2.2.2.2.1
theorem z_732 (h : MZ σ A) : gR σ 732 A = some (A + 25) := h.2.2.2.2.2.2.2.2.2.2.2.2.2.2.2.2.2.2.2.2.2.2.2.2.2.2.2.2.2.2.2.2.2.2.2.2.2.2.2.2.2.2.2.2.2.2.2.2.2.1
theorem s_732 (h : MZ σ A) : sh σ (A + 25) = (2, 8) := h.2.2.2.2.2.2.2.2.2.2.2.2.2.2.2.2.2.2.2.2.2.2.2.2.2.2.2.2.2.2.2.2.2.2.2.2.2.2.2.2.2.2.2.2.2.2.2.2.2.2.1
theorem z_733 (h : MZ σ A) : gR σ 733 A = some (A + 26) := h.2.2.2.2.2.2.2.2.2.2.2.2.2.2.2.2.2.2.2.2.2.2.2.2.2.2.2.2.2.2.2.2.2.2.2.2.2.2.2.2.2.2.2.2.2.2.2.2.2.2.2.1
theorem s_733 (h : MZ σ A) : sh σ (A + 26) = (2, 8) := h.2.2.2.2.2.2.2.2.2.2.2.2.2.2.2.2.2.2.2.2.2.2.2.2.2.2.2.2.2.2.2.2.2.2.2.2.2.2.2.2.2.2.2.2.2.2.2.2.2.2.2.2.1
theorem z_734 (h : MZ σ A) : gR σ 734 A = some (A + 27) := h.2.2.2.2.2.2.2.2.2.2.2.2.2.2.2.2.2.2.2.2.2.2.2.2.2.2.2.2.2.2.2.2.2.2.2.2.2.2.2.2.2.2.2.2.2.2.2.2.2.2.2.2.2.1
theorem s_734 (h : MZ σ A) : sh σ (A + 27) = (4, 8) := h.2.2.2.2.2.2.2.2.2.2.2.2.2.2.2.2.2.2.2.2.2.2.2.2.2.2.2.2.2.2.2.2.2.2.2.2.2.2.2.2.2.2.2.2.2.2.2.2.2.2.2.2.2.2.1
theorem z_735 (h : MZ σ A) : gR σ 735 A = some (A + 28) := h.2.2.2.2.2.2.2.2.2.2.2.2.2.2.2.2.2.2.2.2.2.2.2.2.2.2.2.2.2.2.2.2.2.2.2.2.2.2.2.2.2.2.2.2.2.2.2.2.2.2.2.2.2.2.2.1
theorem s_735 (h : MZ σ A) : sh σ (A + 28) = (2, 8) := h.2.2.2.2.2.2.2.2.2.2.2.2.2.2.2.2.2.2.2.2.2.2.2.2.2.2.2.2.2.2.2.2.2.2.2.2.2.2.2.2.2.2.2.2.2.2.2.2.2.2.2.2.2.2.2.2.1
theorem z_736 (h : MZ σ A) : gR σ 736 A = some (A + 29) := h.2.2.2.2.2.2.2.2.2.2.2.2.2.2.2.2.2.2.2.2.2.2.2.2.2.2.2.2.2.2.2.2.2.2.2.2.2.2.2.2.2.2.2.2.2.2.2.2.2.2.2.2.2.2.2.2.2.1
theorem s_736 (h : MZ σ A) : sh σ (A + 29) = (2, 8) := h.2.2.2.2.2.2.2.2.2.2.2.2.2.2.2.2.2.2.2.2.2.2.2.2.2.2.2.2.2.2.2.2.2.2.2.2.2.2.2.2.2.2.2.2.2.2.2.2.2.2.2.2.2.2.2.2.2.2.1
theorem z_737 (h : MZ σ A) : gR σ 737 A = some (A + 30) := h.2.2.2.2.2.2.2.2.2.2.2.2.2.2.2.2.2.2.2.2.2.2.2.2.2.2.2.2.2.2.2.2.2.2.2.2.2.2.2.2.2.2.2.2.2.2.2.2.2.2.2.2.2.2.2.2.2.2.2.1
theorem s_737 (h : MZ σ A) : sh σ (A + 30) = (2, 24) := h.2.2.2.2.2.2.2.2.2.2.2.2.2.2.2.2.2.2.2.2.2.2.2.2.2.2.2.2.2.2.2.2.2.2.2.2.2.2.2.2.2.2.2.2.2.2.2.2.2.2.2.2.2.2.2.2.2.2.2.2.1
theorem z_738 (h : MZ σ A) : gR σ 738 A = some (A + 31) := h.2.2.2.2.2.2.2.2.2.2.2.2.2.2.2.2.2.2.2.2.2.2.2.2.2.2.2.2.2.2.2.2.2.2.2.2.2.2.2.2.2.2.2.2.2.2.2.2.2.2.2.2.2.2.2.2.2.2.2.2.2.1
theorem s_738 (h : MZ σ A) : sh σ (A + 31) = (2, 24) := h.2.2.2.2.2.2.2.2.2.2.2.2.2.2.2.2.2.2.2.2.2.2.2.2.2.2.2.2.2.2.2.2.2.2.2.2.2.2.2.2.2.2.2.2.2.2.2.2.2.2.2.2.2.2.2.2.2.2.2.2.2.2.1
theorem z_739 (h : MZ σ A) : gR σ 739 A = some (A + 32) := h.2.2.2.2.2.2.2.2.2.2.2.2.2.2.2.2.2.2.2.2.2.2.2.2.2.2.2.2.2.2.2.2.2.2.2.2.2.2.2.2.2.2.2.2.2.2.2.2.2.2.2.2.2.2.2.2.2.2.2.2.2.2.2.1
theorem s_739 (h : MZ σ A) : sh σ (A + 32) = (2, 8) := h.2.2.2.2.2.2.2.2.2.2.2.2.2.2.2.2.2.2.2.2.2.2.2.2.2.2.2.2.2.2.2.2.2.2.2.2.2.2.2.2.2.2.2.2.2.2.2.2.2.2.2.2.2.2.2.2.2.2.2.2.2.2.2.2.1
theorem z_740 (h : MZ σ A) : gR σ 740 A = some (A + 33) := h.2.2.2.2.2.2.2.2.2.2.2.2.2.2.2.2.2.2.2.2.2.2.2.2.2.2.2.2.2.2.2.2.2.2.2.2.2.2.2.2.2.2.2.2.2.2.2.2.2.2.2.2.2.2.2.2.2.2.2.2.2.2.2.2.2.1
theorem s_740 (h : MZ σ A) : sh σ (A + 33) = (2, 24) := h.2.2.2.2.2.2.2.2.2.2.2.2.2.2.2.2.2.2.2.2.2.2.2.2.2.2.2.2.2.2.2.2.2.2.2.2.2.2.2.2.2.2.2.2.2.2.2.2.2.2.2.2.2.2.2.2.2.2.2.2.2.2.2.2.2.2.1
theorem z_741 (h : MZ σ A) : gR σ 741 A = some (A + 34) := h.2.2.2.2.2.2.2.2.2.2.2.2.2.2.2.2.2.2.2.2.2.2.2.2.2.2.2.2.2.2.2.2.2.2.2.2.2.2.2.2.2.2.2.2.2.2.2.2.2.2.2.2.2.2.2.2.2.2.2.2.2.2.2.2.2.2.2.1
theorem s_741 (h : MZ σ A) : sh σ (A + 34) = (2, 24) := h.2.2.2.2.2.2.2.2.2.2.2.2.2.2.2.2.2.2.2.2.2.2.2.2.2.2.2.2.2.2.2.2.2.2.2.2.2.2.2.2.2.2.2.2.2.2.2.2.2.2.2.2.2.2.2.2.2.2.2.2.2.2.2.2.2.2.2.2.1
theorem z_743 (h : MZ σ A) : gR σ 743 A = some (A + 35) := h.2.2.2.2.2.2.2.2.2.2.2.2.2.2.2.2.2.2.2.2.2.2.2.2.2.2.2.2.2.2.2.2.2.2.2.2.2.2.2.2.2.2.2.2.2.2.2.2.2.2.2.2.2.2.2.2.2.2.2.2.2.2.2.2.2.2.2.2.2.1
theorem s_743 (h : MZ σ A) : sh σ (A + 35) = (3, 4096) := h.2.2.2.2.2.2.2.2.2.2.2.2.2.2.2.2.2.2.2.2.2.2.2.2.2.2.2.2.2.2.2.2.2.2.2.2.2.2.2.2.2.2.2.2.2.2.2.2.2.2.2.2.2.2.2.2.2.2.2.2.2.2.2.2.2.2.2.2.2.2.1
theorem z_746 (h : MZ σ A) : gR σ 746 A = some (A + 36) := h.2.2.2.2.2.2.2.2.2.2.2.2.2.2.2.2.2.2.2.2.2.2.2.2.2.2.2.2.2.2.2.2.2.2.2.2.2.2.2.2.2.2.2.2.2.2.2.2.2.2.2.2.2.2.2.2.2.2.2.2.2.2.2.2.2.2.2.2.2.2.2.1
theorem s_746 (h : MZ σ A) : sh σ (A + 36) = (2, 64) := h.2.2.2.2.2.2.2.2.2.2.2.2.2.2.2.2.2.2.2.2.2.2.2.2.2.2.2.2.2.2.2.2.2.2.2.2.2.2.2.2.2.2.2.2.2.2.2.2.2.2.2.2.2.2.2.2.2.2.2.2.2.2.2.2.2.2.2.2.2.2.2.2.1
theorem z_747 (h : MZ σ A) : gR σ 747 A = some (A + 37) := h.2.2.2.2.2.2.2.2.2.2.2.2.2.2.2.2.2.2.2.2.2.2.2.2.2.2.2.2.2.2.2.2.2.2.2.2.2.2.2.2.2.2.2.2.2.2.2.2.2.2.2.2.2.2.2.2.2.2.2.2.2.2.2.2.2.2.2.2.2.2.2.2.2.1
theorem s_747 (h : MZ σ A) : sh σ (A + 37) = (2, 64) := h.2.2.2.2.2.2.2.2.2.2.2.2.2.2.2.2.2.2.2.2.2.2.2.2.2.2.2.2.2.2.2.2.2.2.2.2.2.2.2.2.2.2.2.2.2.2.2.2.2.2.2.2.2.2.2.2.2.2.2.2.2.2.2.2.2.2.2.2.2.2.2.2.2.2.1
theorem z_752 (h : MZ σ A) : gR σ 752 A = some (A + 38) := h.2.2.2.2.2.2.2.2.2.2.2.2.2.2.2.2.2.2.2.2.2.2.2.2.2.2.2.2.2.2.2.2.2.2.2.2.2.2.2.2.2.2.2.2.2.2.2.2.2.2.2.2.2.2.2.2.2.2.2.2.2.2.2.2.2.2.2.2.2.2.2.2.2.2.2.1
theorem s_752 (h : MZ σ A) : sh σ (A + 38) = (4, 8) := h.2.2.2.2.2.2.2.2.2.2.2.2.2.2.2.2.2.2.2.2.2.2.2.2.2.2.2.2.2.2.2.2.2.2.2.2.2.2.2.2.2.2.2.2.2.2.2.2.2.2.2.2.2.2.2.2.2.2.2.2.2.2.2.2.2.2.2.2.2.2.2.2.2.2.2.2.1
theorem z_755 (h : MZ σ A) : gR σ 755 A = some (A + 39) := h.2.2.2.2.2.2.2.2.2.2.2.2.2.2.2.2.2.2.2.2.2.2.2.2.2.2.2.2.2.2.2.2.2.2.2.2.2.2.2.2.2.2.2.2.2.2.2.2.2.2.2.2.2.2.2.2.2.2.2.2.2.2.2.2.2.2.2.2.2.2.2.2.2.2.2.2.2.1
theorem s_755 (h : MZ σ A) : sh σ (A + 39) = (3, 256) := h.2.2.2.2.2.2.2.2.2.2.2.2.2.2.2.2.2.2.2.2.2.2.2.2.2.2.2.2.2.2.2.2.2.2.2.2.2.2.2.2.2.2.2.2.2.2.2.2.2.2.2.2.2.2.2.2.2.2.2.2.2.2.2.2.2.2.2.2.2.2.2.2.2.2.2.2.2.2.1
theorem z_757 (h : MZ σ A) : gR σ 757 A = some (A + 40) := h.2.2.2.2.2.2.2.2.2.2.2.2.2.2.2.2.2.2.2.2.2.2.2.2.2.2.2.2.2.2.2.2.2.2.2.2.2.2.2.2.2.2.2.2.2.2.2.2.2.2.2.2.2.2.2.2.2.2.2.2.2.2.2.2.2.2.2.2.2.2.2.2.2.2.2.2.2.2.2.1
theorem s_757 (h : MZ σ A) : sh σ (A + 40) = (2, 512) := h.2.2.2.2.2.2.2.2.2.2.2.2.2.2.2.2.2.2.2.2.2.2.2.2.2.2.2.2.2.2.2.2.2.2.2.2.2.2.2.2.2.2.2.2.2.2.2.2.2.2.2.2.2.2.2.2.2.2.2.2.2.2.2.2.2.2.2.2.2.2.2.2.2.2.2.2.2.2.2.2.1
theorem z_758 (h : MZ σ A) : gR σ 758 A = some (A + 41) := h.2.2.2.2.2.2.2.2.2.2.2.2.2.2.2.2.2.2.2.2.2.2.2.2.2.2.2.2.2.2.2.2.2.2.2.2.2.2.2.2.2.2.2.2.2.2.2.2.2.2.2.2.2.2.2.2.2.2.2.2.2.2.2.2.2.2.2.2.2.2.2.2.2.2.2.2.2.2.2.2.2.1
theorem s_758 (h : MZ σ A) : sh σ (A + 41) = (4, 12) := h.2.2.2.2.2.2.2.2.2.2.2.2.2.2.2.2.2.2.2.2.2.2.2.2.2.2.2.2.2.2.2.2.2.2.2.2.2.2.2.2.2.2.2.2.2.2.2.2.2.2.2.2.2.2.2.2.2.2.2.2.2.2.2.2.2.2.2.2.2.2.2.2.2.2.2.2.2.2.2.2.2.2
end MZs
/-- of the reference at A only int fields in F and elements in P have changed -/
def MF (F : Nat → Prop) (P : Nat → Nat → Prop) (A : Nat) (σ σ' : PH) : Prop := bs σ' = bs σ ∧ cc σ' = cc σ ∧ cs σ' = cs σ ∧ sh σ' = sh σ ∧ gR σ' = gR σ ∧ eR σ' = eR σ ∧ eL σ' = eL σ ∧ (∀ f a, ¬ (a = A ∧ F f) → gI σ' f a = gI σ f a) ∧ ∀ a j, ¬ P a j → eI σ' a j = eI σ a j
section MFs
variable {σ σ' σ'' : PH} {A : Nat} {F F' : Nat → Prop} {P P' : Nat → Nat → Prop}
theorem MF.rf : MF F P A σ σ := ⟨rfl, rfl, rfl, rfl, rfl, rfl, rfl, fun _ _ _ => rfl, fun _ _ _ => rfl⟩
theorem MF.tr (h : MF F P A σ σ') (h' : MF F P A σ' σ'') : MF F P A σ σ'' := ⟨h'.1.trans h.1, h'.2.1.trans h.2.1, h'.2.2.1.trans h.2.2.1, h'.2.2.2.1.trans h.2.2.2.1, h'.2.2.2.2.1.trans h.2.2.2.2.1, h'.2.2.2.2.2.1.trans h.2.2.2.2.2.1, h'.2.2.2.2.2.2.1.trans h.2.2.2.2.2.2.1, fun f a q => (h'.2.2.2.2.2.2.2.1 f a q).trans (h.2.2.2.2.2.2.2.1 f a q), fun a j q => (h'.2.2.2.2.2.2.2.2 a j q).trans (h.2.2.2.2.2.2.2.2 a j q)⟩
theorem MF.mo (h : MF F P A σ σ') (hF : ∀ f, F f → F' f) (hP : ∀ a j, P a j → P' a j) : MF F' P' A σ σ' := ⟨h.1, h.2.1, h.2.2.1, h.2.2.2.1, h.2.2.2.2.1, h.2.2.2.2.2.1, h.2.2.2.2.2.2.1, fun f a q => h.2.2.2.2.2.2.2.1 f a (fun z => q ⟨z.1, hF f z.2⟩), fun a j q => h.2.2.2.2.2.2.2.2 a j (fun z => q (hP a j z))⟩
theorem MF.gR (h : MF F P A σ σ') : gR σ' = gR σ := h.2.2.2.2.1
theorem MF.sh (h : MF F P A σ σ') : sh σ' = sh σ := h.2.2.2.1
theorem MF.gI (h : MF F P A σ σ') {f : Nat} (hf : ¬ F f) : gI σ' f A = gI σ f A := h.2.2.2.2.2.2.2.1 f A (fun z => hf z.2)
theorem MF.eI (h : MF F P A σ σ') {a j : Nat} (hp : ¬ P a j) : eI σ' a j = eI σ a j := h.2.2.2.2.2.2.2.2 a j hp
theorem MF.pI {f : Nat} {x : Int32} (hf : F f) : MF F P A σ (pI σ f A x) := ⟨rfl, rfl, rfl, rfl, rfl, rfl, rfl, fun g a q => by rw [gI_pI]; exact if_neg (fun z => q ⟨z.2, by rw [z.1]; exact hf⟩), fun _ _ _ => rfl⟩
theorem MF.uI {a j : Nat} {x : Int32} (hp : P a j) : MF F P A σ (uI σ a j x) := ⟨rfl, rfl, rfl, rfl, rfl, rfl, rfl, fun _ _ _ => rfl, fun b i q => by rw [eI_uI]; exact if_neg (fun z => q (by rw [z.1, z.2]; exact hp))⟩
theorem MF.z (h : MF F P A σ σ') (hz : MZ σ A) : MZ σ' A := by unfold MZ; rw [h.gR, h.sh]; exact hz
/-- the reference's cells alone -/
abbrev gP (A : Nat) : Nat → Prop := fun q => A ≤ q ∧ q < A + 42
theorem MF.fr (h : MF F P A σ σ') (hp : ∀ a j, P a j → gP A a) : Fr (gP A) σ σ' := ⟨h.1, h.2.1, h.2.2.1, h.2.2.2.1, fun q hq => ⟨by rw [h.sh], fun f => h.2.2.2.2.2.2.2.1 f q (fun z => hq (by rw [z.1]; unfold gP; omega)), fun f => by rw [h.gR], fun j => h.eI (fun z => hq (hp q j z)), fun j => by rw [h.2.2.2.2.2.1], fun j => by rw [h.2.2.2.2.2.2.1]⟩⟩
end MFs
/-- a channel in the reference -/
def MC (σ : PH) (A c : Nat) (s : CS) : Prop := eI σ (A + 1) c = nI (!sOp s).toNat ∧ eI σ (A + 2) c = nI (sG s).length ∧ (sG s).length < 4000 ∧ (∀ i, i < (sG s).length → eI σ (A + 3) (4096 * c + i) = nI ((sG s).getD i 0)) ∧ eI σ (A + 4) c = nI (sF s).toNat ∧ eI σ (A + 5) c = nI (sLa s) ∧ eI σ (A + 6) c = nI (sMi s).length ∧ (sMi s).length ≤ 30 ∧ (∀ i, i < (sMi s).length → eI σ (A + 7) (40 * c + i) = nI ((sMi s).getD i 0)) ∧ eI σ (A + 24) c = nI (nb (sLn s)) ∧ eI σ (A + 25) c = nI (sSd s).1 ∧ ((sSd s).1 ≠ 0 → eI σ (A + 26) c = nI (sSd s).2.1 ∧ eI σ (A + 27) c = nI (sSd s).2.2.toNat ∧ eI σ (A + 28) c = nI (sOut s)) ∧ eI σ (A + 29) c = nI (sSent s).length ∧ (sSent s).length ≤ 3 ∧ (∀ i, i < (sSent s).length → eI σ (A + 30) (3 * c + i) = nI ((sSent s).getD i (0, 0)).1 ∧ eI σ (A + 31) (3 * c + i) = nI ((sSent s).getD i (0, 0)).2) ∧ eI σ (A + 32) c = nI (sAsk s).length ∧ (sAsk s).length ≤ 3 ∧ (∀ i, i < (sAsk s).length → eI σ (A + 33) (3 * c + i) = nI ((sAsk s).getD i (0, 0)).1 ∧ eI σ (A + 34) (3 * c + i) = nI ((sAsk s).getD i (0, 0)).2)
/-- which elements are channel c's -/
def own (c k j : Nat) : Prop := (k = 3 ∧ j / 4096 = c) ∨ (k = 7 ∧ j / 40 = c) ∨ ((k = 30 ∨ k = 31 ∨ k = 33 ∨ k = 34) ∧ j / 3 = c) ∨ ((k = 1 ∨ k = 2 ∨ k = 4 ∨ k = 5 ∨ k = 6 ∨ k = 24 ∨ k = 25 ∨ k = 26 ∨ k = 27 ∨ k = 28 ∨ k = 29 ∨ k = 32) ∧ j = c)
theorem MC.ag {σ σ' : PH} {A c : Nat} {s : CS} (h : MC σ A c s) (h1 : ∀ k j, own c k j → eI σ' (A + k) j = eI σ (A + k) j) : MC σ' A c s := by
  obtain ⟨a1, a2, a3, a4, a5, a6, a7, a8, a9, a10, a11, a12, a13, a14, a15, a16, a17, a18⟩ := h
  refine ⟨by rw [h1 _ _ (by unfold own; omega)]; exact a1, by rw [h1 _ _ (by unfold own; omega)]; exact a2, a3, fun i hi => by rw [h1 _ _ (by unfold own; omega)]; exact a4 i hi, by rw [h1 _ _ (by unfold own; omega)]; exact a5, by rw [h1 _ _ (by unfold own; omega)]; exact a6, by rw [h1 _ _ (by unfold own; omega)]; exact a7, a8, fun i hi => by rw [h1 _ _ (by unfold own; omega)]; exact a9 i hi, by rw [h1 _ _ (by unfold own; omega)]; exact a10, by rw [h1 _ _ (by unfold own; omega)]; exact a11, fun q => ?_, by rw [h1 _ _ (by unfold own; omega)]; exact a13, a14, fun i hi => ?_, by rw [h1 _ _ (by unfold own; omega)]; exact a16, a17, fun i hi => ?_⟩
  · rw [h1 26 _ (by unfold own; omega), h1 27 _ (by unfold own; omega), h1 28 _ (by unfold own; omega)]; exact a12 q
  · rw [h1 30 _ (by unfold own; omega), h1 31 _ (by unfold own; omega)]; exact a15 i hi
  · rw [h1 33 _ (by unfold own; omega), h1 34 _ (by unfold own; omega)]; exact a18 i hi
/-- routes, messages, cases in the reference -/
def MO (σ : PH) (A : Nat) (R : List RO) : Prop := gI σ 712 A = nI R.length ∧ R.length ≤ 12 ∧ ∀ i, i < R.length → eI σ (A + 8) i = nI (R.getD i r0).1 ∧ eI σ (A + 9) i = nI (if (R.getD i r0).2.2.2 = [] then 1 else 2) ∧ ((R.getD i r0).2.2.2 = [] → eI σ (A + 10) i = nI (R.getD i r0).2.1 ∧ eI σ (A + 11) i = nI (R.getD i r0).2.2.1) ∧ eI σ (A + 12) i = nI (R.getD i r0).2.2.2.length ∧ (R.getD i r0).2.2.2.length ≤ 4 ∧ ∀ k, k < (R.getD i r0).2.2.2.length → eI σ (A + 13) (4 * i + k) = nI ((R.getD i r0).2.2.2.getD k 0)
def MM (σ : PH) (A : Nat) (M : List MS) : Prop := gI σ 719 A = nI M.length ∧ M.length ≤ 10 ∧ ∀ m, 1 ≤ m → m ≤ M.length → eI σ (A + 14) m = nI (msg M m).1 ∧ eI σ (A + 15) m = nI (msg M m).2.1.length ∧ (msg M m).2.1.length ≤ 4 ∧ (∀ k, k < (msg M m).2.1.length → eI σ (A + 16) (4 * m + k) = nI ((msg M m).2.1.getD k 0)) ∧ eI σ (A + 17) m = nI (msg M m).2.2.1.length ∧ (msg M m).2.2.1.length ≤ 60 ∧ (∀ k, k < (msg M m).2.2.1.length → eI σ (A + 18) (64 * m + k) = nI ((msg M m).2.2.1.getD k 0)) ∧ ∀ c, c < 8 → eI σ (A + 19) (8 * m + c) = nI (min ((msg M m).2.2.2 c) 3) ∧ (3 ≤ (msg M m).2.2.2 c → eI σ (A + 20) (8 * m + c) = nI ((msg M m).2.2.2 c - 2))
def MK (σ : PH) (A : Nat) (C : List (Nat × List Nat)) : Prop := gI σ 727 A = nI C.length ∧ C.length ≤ 6 ∧ ∀ i, 1 ≤ i → i ≤ C.length → eI σ (A + 21) i = nI (C.getD (i - 1) (0, [])).1 ∧ eI σ (A + 22) i = nI (C.getD (i - 1) (0, [])).2.length ∧ (C.getD (i - 1) (0, [])).2.length ≤ 60 ∧ ∀ k, k < (C.getD (i - 1) (0, [])).2.length → eI σ (A + 23) (64 * i + k) = nI ((C.getD (i - 1) (0, [])).2.getD k 0)
theorem MO.ag {σ σ' : PH} {A : Nat} {R : List RO} (h : MO σ A R) (h0 : gI σ' 712 A = gI σ 712 A) (h1 : ∀ k j, 8 ≤ k → k ≤ 13 → eI σ' (A + k) j = eI σ (A + k) j) : MO σ' A R := by
  obtain ⟨a1, a2, a3⟩ := h
  refine ⟨by rw [h0]; exact a1, a2, fun i hi => ?_⟩
  rw [h1 8 _ (by omega) (by omega), h1 9 _ (by omega) (by omega), h1 10 _ (by omega) (by omega), h1 11 _ (by omega) (by omega), h1 12 _ (by omega) (by omega)]
  obtain ⟨b1, b2, b3, b4, b5, b6⟩ := a3 i hi
  exact ⟨b1, b2, b3, b4, b5, fun k hk => by rw [h1 13 _ (by omega) (by omega)]; exact b6 k hk⟩
theorem MM.ag {σ σ' : PH} {A : Nat} {M : List MS} (h : MM σ A M) (h0 : gI σ' 719 A = gI σ 719 A) (h1 : ∀ k j, 14 ≤ k → k ≤ 20 → eI σ' (A + k) j = eI σ (A + k) j) : MM σ' A M := by
  obtain ⟨a1, a2, a3⟩ := h
  refine ⟨by rw [h0]; exact a1, a2, fun m m1 m2 => ?_⟩
  rw [h1 14 _ (by omega) (by omega), h1 15 _ (by omega) (by omega), h1 17 _ (by omega) (by omega)]
  obtain ⟨b1, b2, b3, b4, b5, b6, b7, b8⟩ := a3 m m1 m2
  exact ⟨b1, b2, b3, fun k hk => by rw [h1 16 _ (by omega) (by omega)]; exact b4 k hk, b5, b6, fun k hk => by rw [h1 18 _ (by omega) (by omega)]; exact b7 k hk, fun c hc => by rw [h1 19 _ (by omega) (by omega), h1 20 _ (by omega) (by omega)]; exact b8 c hc⟩
theorem MK.ag {σ σ' : PH} {A : Nat} {C : List (Nat × List Nat)} (h : MK σ A C) (h0 : gI σ' 727 A = gI σ 727 A) (h1 : ∀ k j, 21 ≤ k → k ≤ 23 → eI σ' (A + k) j = eI σ (A + k) j) : MK σ' A C := by
  obtain ⟨a1, a2, a3⟩ := h
  refine ⟨by rw [h0]; exact a1, a2, fun i i1 i2 => ?_⟩
  rw [h1 21 _ (by omega) (by omega), h1 22 _ (by omega) (by omega)]
  obtain ⟨b1, b2, b3, b4⟩ := a3 i i1 i2
  exact ⟨b1, b2, b3, fun k hk => by rw [h1 23 _ (by omega) (by omega)]; exact b4 k hk⟩
def MR (σ : PH) (A : Nat) (S : SP) : Prop := MZ σ A ∧ (∀ c, c < 8 → MC σ A c (S.1 c)) ∧ MO σ A S.2.2.2 ∧ MM σ A S.2.1 ∧ MK σ A S.2.2.1
/-- scratch: fields and arrays that hold nothing from call to call -/
def scF (f : Nat) : Prop := f = 704 ∨ (742 ≤ f ∧ f ≤ 758)
def scP (A : Nat) (a _j : Nat) : Prop := A + 35 ≤ a ∧ a < A + 42
theorem MR.sc {σ σ' : PH} {A : Nat} {S : SP} (h : MR σ A S) (hf : MF scF (scP A) A σ σ') : MR σ' A S := by
  obtain ⟨h1, h2, h3, h4, h5⟩ := h
  exact ⟨hf.z h1, fun c hc => (h2 c hc).ag (fun k j hk => hf.eI (by unfold own at hk; unfold scP; omega)), h3.ag (hf.gI (by unfold scF; omega)) (fun k j k1 k2 => hf.eI (by unfold scP; omega)), h4.ag (hf.gI (by unfold scF; omega)) (fun k j k1 k2 => hf.eI (by unfold scP; omega)), h5.ag (hf.gI (by unfold scF; omega)) (fun k j k1 k2 => hf.eI (by unfold scP; omega))⟩
/-- a channel's elements (and scratch) have changed -/
def chF (A c : Nat) (a j : Nat) : Prop := scP A a j ∨ ∃ k, a = A + k ∧ own c k j
theorem MR.chan {σ σ' : PH} {A c : Nat} {S : SP} {s : CS} (h : MR σ A S) (hf : MF scF (chF A c) A σ σ') (hs : MC σ' A c s) : MR σ' A (uC S c s) := by
  obtain ⟨h1, h2, h3, h4, h5⟩ := h
  have key : ∀ k j, (k ≤ 34) → ¬ own c k j → eI σ' (A + k) j = eI σ (A + k) j := fun k j hk ho => hf.eI (fun q => by
    rcases q with q | ⟨k', e, q⟩
    · unfold scP at q; omega
    · rw [show k' = k by omega] at q; exact ho q)
  refine ⟨hf.z h1, fun x hx => ?_, h3.ag (hf.gI (by unfold scF; omega)) (fun k j k1 k2 => key k j (by omega) (by unfold own; omega)), h4.ag (hf.gI (by unfold scF; omega)) (fun k j k1 k2 => key k j (by omega) (by unfold own; omega)), h5.ag (hf.gI (by unfold scF; omega)) (fun k j k1 k2 => key k j (by omega) (by unfold own; omega))⟩
  show MC σ' A x (if x = c then s else S.1 x)
  by_cases hxc : x = c
  · rw [if_pos hxc, hxc]; exact hs
  · rw [if_neg hxc]
    exact (h2 x hx).ag (fun k j hk => key k j (by unfold own at hk; omega) (by unfold own at *; omega))
/-- the reference's routes, cases, messages (and scratch) have changed -/
theorem MR.rout {σ σ' : PH} {A : Nat} {S : SP} {R : List RO} (h : MR σ A S) (hf : MF (fun f => scF f ∨ f = 712) (fun a j => scP A a j ∨ (A + 8 ≤ a ∧ a ≤ A + 13)) A σ σ') (hs : MO σ' A R) : MR σ' A (uR' S R) := by
  obtain ⟨h1, h2, h3, h4, h5⟩ := h
  exact ⟨hf.z h1, fun x hx => (h2 x hx).ag (fun k j hk => hf.eI (by unfold own at hk; unfold scP; omega)), hs, h4.ag (hf.gI (by unfold scF; omega)) (fun k j k1 k2 => hf.eI (by unfold scP; omega)), h5.ag (hf.gI (by unfold scF; omega)) (fun k j k1 k2 => hf.eI (by unfold scP; omega))⟩
theorem MR.mess {σ σ' : PH} {A : Nat} {S : SP} {M : List MS} (h : MR σ A S) (hf : MF (fun f => scF f ∨ f = 719) (fun a j => scP A a j ∨ (A + 14 ≤ a ∧ a ≤ A + 20)) A σ σ') (hs : MM σ' A M) : MR σ' A (uM S M) := by
  obtain ⟨h1, h2, h3, h4, h5⟩ := h
  exact ⟨hf.z h1, fun x hx => (h2 x hx).ag (fun k j hk => hf.eI (by unfold own at hk; unfold scP; omega)), h3.ag (hf.gI (by unfold scF; omega)) (fun k j k1 k2 => hf.eI (by unfold scP; omega)), hs, h5.ag (hf.gI (by unfold scF; omega)) (fun k j k1 k2 => hf.eI (by unfold scP; omega))⟩
theorem MR.cas {σ σ' : PH} {A : Nat} {S : SP} {C : List (Nat × List Nat)} (h : MR σ A S) (hf : MF (fun f => scF f ∨ f = 727) (fun a j => scP A a j ∨ (A + 21 ≤ a ∧ a ≤ A + 23)) A σ σ') (hs : MK σ' A C) : MR σ' A (uK S C) := by
  obtain ⟨h1, h2, h3, h4, h5⟩ := h
  exact ⟨hf.z h1, fun x hx => (h2 x hx).ag (fun k j hk => hf.eI (by unfold own at hk; unfold scP; omega)), h3.ag (hf.gI (by unfold scF; omega)) (fun k j k1 k2 => hf.eI (by unfold scP; omega)), h4.ag (hf.gI (by unfold scF; omega)) (fun k j k1 k2 => hf.eI (by unfold scP; omega)), hs⟩
theorem MR.ag {σ σ' : PH} {A : Nat} {S : SP} (h : MR σ A S) (h1 : ∀ q, gP A q → Ag σ σ' q) : MR σ' A S := by
  obtain ⟨a1, a2, a3, a4, a5⟩ := h
  have e : ∀ k j, k ≤ 41 → eI σ' (A + k) j = eI σ (A + k) j := fun k j hk => (h1 (A + k) (by unfold gP; omega)).2.2.2.1 j
  have g0 := h1 A (by unfold gP; omega)
  have hs : ∀ k, k ≤ 41 → sh σ' (A + k) = sh σ (A + k) := fun k hk => (h1 (A + k) (by unfold gP; omega)).1
  refine ⟨?_, fun c hc => (a2 c hc).ag (fun k j hk => e k j (by unfold own at hk; omega)), a3.ag (g0.2.1 _) (fun k j k1 k2 => e k j (by omega)), a4.ag (g0.2.1 _) (fun k j k1 k2 => e k j (by omega)), a5.ag (g0.2.1 _) (fun k j k1 k2 => e k j (by omega))⟩
  unfold MZ at *
  simp only [g0.1, g0.2.2.1]
  rw [hs 1 (by omega), hs 2 (by omega), hs 3 (by omega), hs 4 (by omega), hs 5 (by omega), hs 6 (by omega), hs 7 (by omega), hs 8 (by omega), hs 9 (by omega), hs 10 (by omega), hs 11 (by omega), hs 12 (by omega), hs 13 (by omega), hs 14 (by omega), hs 15 (by omega), hs 16 (by omega), hs 17 (by omega), hs 18 (by omega), hs 19 (by omega), hs 20 (by omega), hs 21 (by omega), hs 22 (by omega), hs 23 (by omega), hs 24 (by omega), hs 25 (by omega), hs 26 (by omega), hs 27 (by omega), hs 28 (by omega), hs 29 (by omega), hs 30 (by omega), hs 31 (by omega), hs 32 (by omega), hs 33 (by omega), hs 34 (by omega), hs 35 (by omega), hs 36 (by omega), hs 37 (by omega), hs 38 (by omega), hs 39 (by omega), hs 40 (by omega), hs 41 (by omega)]
  exact a1
/-- bounds -/
def Bd (S : SP) : Prop := (∀ m, 1 ≤ m → m ≤ S.2.1.length → (msg S.2.1 m).1 ≤ 4 ∧ (msg S.2.1 m).2.1.length ≤ 4 ∧ (∀ k ∈ (msg S.2.1 m).2.1, k < 456976) ∧ (msg S.2.1 m).2.2.1.length ≤ 60 ∧ (∀ x ∈ (msg S.2.1 m).2.2.1, x < 128) ∧ (∀ c, c < 8 → (msg S.2.1 m).2.2.2 c < 2000) ∧ 5 * (msg S.2.1 m).2.1.length + (msg S.2.1 m).2.2.1.length ≤ 54) ∧ (∀ i, i < S.2.2.1.length → (S.2.2.1.getD i (0, [])).1 ≤ 5 ∧ (S.2.2.1.getD i (0, [])).2.length ≤ 60 ∧ ∀ x ∈ (S.2.2.1.getD i (0, [])).2, x < 128) ∧ (∀ i, i < S.2.2.2.length → (S.2.2.2.getD i r0).1 < 456976 ∧ (S.2.2.2.getD i r0).2.1 < 8 ∧ (S.2.2.2.getD i r0).2.2.1 < 8 ∧ (S.2.2.2.getD i r0).2.2.2.length ≤ 4 ∧ ∀ m ∈ (S.2.2.2.getD i r0).2.2.2, m < 456976)
theorem CR.bd {σ : PH} {B : Nat} {S : SP} (h : CR σ B S) (hM : S.2.1.length ≤ 10) (hN : S.2.2.1.length ≤ 6) : Bd S := by
  obtain ⟨a1, a2, a3, a4, a5, a6⟩ := h
  refine ⟨fun m m1 m2 => ?_, fun i hi => ?_, fun i hi => ?_⟩
  · obtain ⟨b1, b2, b3, b4, b5, b6, b7, b8, b9, b10, b11, b12, b13, b14, b15⟩ := a5 m m1 (by omega)
    exact ⟨b9, b11, b13, b5.2.2.2.2.1, b5.2.2.2.2.2.2.2, fun c hc => (b14 c hc).2, b15⟩
  · obtain ⟨b1, b2, b3, b4, b5⟩ := a6 i (by omega)
    exact ⟨b4, b5.2.2.2.2.1, b5.2.2.2.2.2.2.2⟩
  · have h12 := a2.2.2.2.2.2.1
    obtain ⟨b1, b2, b3, b4, b5, b6, b7, b8, b9, b10, b11, b12, b13⟩ := a2.2.2.2.2.2.2 i (by omega)
    exact ⟨b10, b11, b12, b8, b13⟩
