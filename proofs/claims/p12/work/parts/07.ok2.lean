noncomputable section
set_option maxRecDepth 100000 in
theorem o_X8_read : ri_okq (m_X8_read, 1, 1, t_X8_read) := ri_okq_of 519 82 517 518 (by decide +kernel) (by decide +kernel)
set_option maxRecDepth 100000 in
theorem o_X8_fault : ri_okq (m_X8_fault, 0, 1, t_X8_fault) := ri_okq_of 558 82 556 557 (by decide +kernel) (by decide +kernel)
set_option maxRecDepth 100000 in
theorem o_X8_twist : ri_okq (m_X8_twist, 2, 1, t_X8_twist) := ri_okq_of 562 82 560 561 (by decide +kernel) (by decide +kernel)
set_option maxRecDepth 100000 in
theorem o_X8_chain : ri_okq (m_X8_chain, 3, 1, t_X8_chain) := ri_okq_of 570 82 568 569 (by decide +kernel) (by decide +kernel)
set_option maxRecDepth 100000 in
theorem o_X8_turn : ri_okq (m_X8_turn, 2, 1, t_X8_turn) := ri_okq_of 579 82 577 578 (by decide +kernel) (by decide +kernel)
set_option maxRecDepth 100000 in
theorem o_X8_image : ri_okq (m_X8_image, 3, 1, t_X8_image) := ri_okq_of 587 82 585 586 (by decide +kernel) (by decide +kernel)
set_option maxRecDepth 100000 in
theorem o_X8_carried : ri_okq (m_X8_carried, 3, 1, t_X8_carried) := ri_okq_of 607 82 605 606 (by decide +kernel) (by decide +kernel)
set_option maxRecDepth 100000 in
theorem o_X8_meetsThen : ri_okq (m_X8_meetsThen, 3, 1, t_X8_meetsThen) := ri_okq_of 617 82 615 616 (by decide +kernel) (by decide +kernel)
set_option maxRecDepth 100000 in
theorem o_X8_same : ri_okq (m_X8_same, 2, 1, t_X8_same) := ri_okq_of 621 82 619 620 (by decide +kernel) (by decide +kernel)
set_option maxRecDepth 100000 in
theorem o_X8_turns : ri_okq (m_X8_turns, 1, 1, t_X8_turns) := ri_okq_of 643 82 641 642 (by decide +kernel) (by decide +kernel)
set_option maxRecDepth 100000 in
theorem o_X8_order : ri_okq (m_X8_order, 2, 1, t_X8_order) := ri_okq_of 667 82 665 666 (by decide +kernel) (by decide +kernel)
set_option maxRecDepth 100000 in
theorem o_X8_table : ri_okq (m_X8_table, 3, 1, t_X8_table) := ri_okq_of 671 82 669 670 (by decide +kernel) (by decide +kernel)
set_option maxRecDepth 100000 in
theorem o_X8_character : ri_okq (m_X8_character, 2, 1, t_X8_character) := ri_okq_of 679 82 677 678 (by decide +kernel) (by decide +kernel)
set_option maxRecDepth 100000 in
theorem o_X8_length : ri_okq (m_X8_length, 2, 1, t_X8_length) := ri_okq_of 700 82 698 699 (by decide +kernel) (by decide +kernel)
set_option maxRecDepth 100000 in
theorem o_X8_sort : ri_okq (m_X8_sort, 2, 1, t_X8_sort) := ri_okq_of 708 82 706 707 (by decide +kernel) (by decide +kernel)
set_option maxRecDepth 100000 in
theorem o_X8_law : ri_okq (m_X8_law, 2, 1, t_X8_law) := ri_okq_of 720 82 718 719 (by decide +kernel) (by decide +kernel)
set_option maxRecDepth 100000 in
theorem o_X8_carry : ri_okq (m_X8_carry, 4, 1, t_X8_carry) := ri_okq_of 729 82 727 728 (by decide +kernel) (by decide +kernel)
set_option maxRecDepth 100000 in
theorem o_X8_fewest : ri_okq (m_X8_fewest, 3, 1, t_X8_fewest) := ri_okq_of 760 82 758 759 (by decide +kernel) (by decide +kernel)
set_option maxRecDepth 100000 in
theorem o_X8_layOut : ri_okq (m_X8_layOut, 1, 1, t_X8_layOut) := ri_okq_of 305 82 304 0 (by decide +kernel) (by decide +kernel)
set_option maxRecDepth 100000 in
theorem o_X8_isRing : ri_okq (m_X8_isRing, 1, 1, t_X8_isRing) := ri_okq_of 458 82 457 9 (by decide +kernel) (by decide +kernel)
set_option maxRecDepth 100000 in
theorem o_X8_isPlan : ri_okq (m_X8_isPlan, 1, 0, t_X8_isPlan) := ri_okq_of 522 82 521 0 (by decide +kernel) (by decide +kernel)
set_option maxRecDepth 100000 in
theorem o_X8_isTwist : ri_okq (m_X8_isTwist, 1, 1, t_X8_isTwist) := ri_okq_of 724 82 723 24 (by decide +kernel) (by decide +kernel)
set_option maxRecDepth 100000 in
theorem o_X8_isLetter : ri_okq (m_X8_isLetter, 1, 1, t_X8_isLetter) := ri_okq_of 591 82 590 17 (by decide +kernel) (by decide +kernel)
set_option maxRecDepth 100000 in
theorem o_X8_isSearch : ri_okq (m_X8_isSearch, 2, 0, t_X8_isSearch) := ri_okq_of 732 82 731 0 (by decide +kernel) (by decide +kernel)
set_option maxRecDepth 100000 in
theorem o_X8_oneIf : ri_okq (m_X8_oneIf, 1, 0, t_X8_oneIf) := ri_okq_of 461 82 460 0 (by decide +kernel) (by decide +kernel)
set_option maxRecDepth 100000 in
theorem o_X8_firstBarring : ri_okq (m_X8_firstBarring, 2, 1, t_X8_firstBarring) := ri_okq_of 498 82 497 12 (by decide +kernel) (by decide +kernel)
set_option maxRecDepth 100000 in
theorem o_X8_carryToWork : ri_okq (m_X8_carryToWork, 2, 1, t_X8_carryToWork) := ri_okq_of 611 82 610 18 (by decide +kernel) (by decide +kernel)
set_option maxRecDepth 100000 in
theorem o_X8_firstUnlike : ri_okq (m_X8_firstUnlike, 2, 1, t_X8_firstUnlike) := ri_okq_of 625 82 624 19 (by decide +kernel) (by decide +kernel)
set_option maxRecDepth 100000 in
theorem o_X8_keepsSomeRing : ri_okq (m_X8_keepsSomeRing, 2, 1, t_X8_keepsSomeRing) := ri_okq_of 712 82 711 22 (by decide +kernel) (by decide +kernel)
set_option maxRecDepth 100000 in
theorem o_X8_keepsRing : ri_okq (m_X8_keepsRing, 3, 1, t_X8_keepsRing) := ri_okq_of 716 82 715 23 (by decide +kernel) (by decide +kernel)
set_option maxRecDepth 100000 in
theorem o_X9_init : ri_okq (m_X9_init, 0, 2, t_X9_init) := ri_okq_of 776 93 775 0 (by decide +kernel) (by decide +kernel)
set_option maxRecDepth 100000 in
theorem o_X9_in : ri_okq (m_X9_in, 3, 0, t_X9_in) := ri_okq_of 875 93 874 0 (by decide +kernel) (by decide +kernel)
set_option maxRecDepth 100000 in
theorem o_X9_bit : ri_okq (m_X9_bit, 1, 0, t_X9_bit) := ri_okq_of 926 93 925 0 (by decide +kernel) (by decide +kernel)
set_option maxRecDepth 100000 in
theorem o_X9_lay : ri_okq (m_X9_lay, 1, 1, t_X9_lay) := ri_okq_of 781 93 780 29 (by decide +kernel) (by decide +kernel)
set_option maxRecDepth 100000 in
theorem o_X9_skin : ri_okq (m_X9_skin, 1, 1, t_X9_skin) := ri_okq_of 871 93 869 870 (by decide +kernel) (by decide +kernel)
set_option maxRecDepth 100000 in
theorem o_X9_twists : ri_okq (m_X9_twists, 0, 1, t_X9_twists) := ri_okq_of 1180 93 1179 75 (by decide +kernel) (by decide +kernel)
set_option maxRecDepth 100000 in
theorem o_X9_isLetter : ri_okq (m_X9_isLetter, 1, 1, t_X9_isLetter) := ri_okq_of 883 93 882 30 (by decide +kernel) (by decide +kernel)
set_option maxRecDepth 100000 in
theorem o_X9_letter : ri_okq (m_X9_letter, 1, 1, t_X9_letter) := ri_okq_of 879 93 877 878 (by decide +kernel) (by decide +kernel)
set_option maxRecDepth 100000 in
theorem o_X9_ring : ri_okq (m_X9_ring, 0, 1, t_X9_ring) := ri_okq_of 887 93 885 886 (by decide +kernel) (by decide +kernel)
set_option maxRecDepth 100000 in
theorem o_X9_noRing : ri_okq (m_X9_noRing, 1, 1, t_X9_noRing) := ri_okq_of 899 93 898 31 (by decide +kernel) (by decide +kernel)
set_option maxRecDepth 100000 in
theorem o_X9_drop : ri_okq (m_X9_drop, 0, 1, t_X9_drop) := ri_okq_of 891 93 889 890 (by decide +kernel) (by decide +kernel)
end
