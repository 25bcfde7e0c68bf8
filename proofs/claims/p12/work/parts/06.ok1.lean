noncomputable section
set_option maxRecDepth 100000 in
theorem o_X5_spell : ri_okq (m_X5_spell, 3, 1, t_X5_spell) := ri_okq_of 755 88 754 27 (by decide +kernel) (by decide +kernel)
set_option maxRecDepth 100000 in
theorem o_X5_forImages : ri_okq (m_X5_forImages, 2, 1, t_X5_forImages) := ri_okq_of 764 88 762 763 (by decide +kernel) (by decide +kernel)
set_option maxRecDepth 100000 in
theorem o_X5_doesAsImages : ri_okq (m_X5_doesAsImages, 1, 1, t_X5_doesAsImages) := ri_okq_of 768 88 767 28 (by decide +kernel) (by decide +kernel)
set_option maxRecDepth 100000 in
theorem o_X6_init : ri_okq (m_X6_init, 0, 2, t_X6_init) := ri_okq_of 225 89 224 0 (by decide +kernel) (by decide +kernel)
set_option maxRecDepth 100000 in
theorem o_X6_add : ri_okq (m_X6_add, 1, 1, t_X6_add) := ri_okq_of 515 89 513 514 (by decide +kernel) (by decide +kernel)
set_option maxRecDepth 100000 in
theorem o_X6_understand : ri_okq (m_X6_understand, 1, 1, t_X6_understand) := ri_okq_of 526 89 524 525 (by decide +kernel) (by decide +kernel)
set_option maxRecDepth 100000 in
theorem o_X6_take : ri_okq (m_X6_take, 2, 1, t_X6_take) := ri_okq_of 530 89 529 13 (by decide +kernel) (by decide +kernel)
set_option maxRecDepth 100000 in
theorem o_X6_isFigure : ri_okq (m_X6_isFigure, 1, 0, t_X6_isFigure) := ri_okq_of 537 89 536 0 (by decide +kernel) (by decide +kernel)
set_option maxRecDepth 100000 in
theorem o_X6_takeHandle : ri_okq (m_X6_takeHandle, 1, 1, t_X6_takeHandle) := ri_okq_of 534 89 533 14 (by decide +kernel) (by decide +kernel)
set_option maxRecDepth 100000 in
theorem o_X6_takeTimes : ri_okq (m_X6_takeTimes, 1, 1, t_X6_takeTimes) := ri_okq_of 545 89 544 15 (by decide +kernel) (by decide +kernel)
set_option maxRecDepth 100000 in
theorem o_X6_takeItem : ri_okq (m_X6_takeItem, 2, 1, t_X6_takeItem) := ri_okq_of 549 89 548 16 (by decide +kernel) (by decide +kernel)
set_option maxRecDepth 100000 in
theorem o_X7_init : ri_okq (m_X7_init, 0, 2, t_X7_init) := ri_okq_of 135 85 134 0 (by decide +kernel) (by decide +kernel)
set_option maxRecDepth 100000 in
theorem o_X7_layOut : ri_okq (m_X7_layOut, 1, 1, t_X7_layOut) := ri_okq_of 309 85 307 308 (by decide +kernel) (by decide +kernel)
set_option maxRecDepth 100000 in
theorem o_X7_layWord : ri_okq (m_X7_layWord, 3, 1, t_X7_layWord) := ri_okq_of 313 85 312 1 (by decide +kernel) (by decide +kernel)
set_option maxRecDepth 100000 in
theorem o_X7_spellFirst : ri_okq (m_X7_spellFirst, 3, 1, t_X7_spellFirst) := ri_okq_of 317 85 316 2 (by decide +kernel) (by decide +kernel)
set_option maxRecDepth 100000 in
theorem o_X7_spellSecond : ri_okq (m_X7_spellSecond, 3, 1, t_X7_spellSecond) := ri_okq_of 325 85 324 3 (by decide +kernel) (by decide +kernel)
set_option maxRecDepth 100000 in
theorem o_X7_spellThird : ri_okq (m_X7_spellThird, 3, 1, t_X7_spellThird) := ri_okq_of 329 85 328 4 (by decide +kernel) (by decide +kernel)
set_option maxRecDepth 100000 in
theorem o_X7_spellBetween : ri_okq (m_X7_spellBetween, 2, 1, t_X7_spellBetween) := ri_okq_of 333 85 332 5 (by decide +kernel) (by decide +kernel)
set_option maxRecDepth 100000 in
theorem o_X7_slotOf : ri_okq (m_X7_slotOf, 2, 0, t_X7_slotOf) := ri_okq_of 347 85 346 0 (by decide +kernel) (by decide +kernel)
set_option maxRecDepth 100000 in
theorem o_X7_keepWord : ri_okq (m_X7_keepWord, 3, 1, t_X7_keepWord) := ri_okq_of 344 85 343 6 (by decide +kernel) (by decide +kernel)
set_option maxRecDepth 100000 in
theorem o_X7_doTwist : ri_okq (m_X7_doTwist, 2, 1, t_X7_doTwist) := ri_okq_of 603 85 601 602 (by decide +kernel) (by decide +kernel)
set_option maxRecDepth 100000 in
theorem o_X7_doPlan : ri_okq (m_X7_doPlan, 2, 1, t_X7_doPlan) := ri_okq_of 599 85 597 598 (by decide +kernel) (by decide +kernel)
set_option maxRecDepth 100000 in
theorem o_X8_init : ri_okq (m_X8_init, 0, 2, t_X8_init) := ri_okq_of 99 82 98 0 (by decide +kernel) (by decide +kernel)
set_option maxRecDepth 100000 in
theorem o_X8_skin : ri_okq (m_X8_skin, 1, 1, t_X8_skin) := ri_okq_of 394 82 392 393 (by decide +kernel) (by decide +kernel)
set_option maxRecDepth 100000 in
theorem o_X8_letter : ri_okq (m_X8_letter, 1, 1, t_X8_letter) := ri_okq_of 398 82 396 397 (by decide +kernel) (by decide +kernel)
set_option maxRecDepth 100000 in
theorem o_X8_ring : ri_okq (m_X8_ring, 0, 1, t_X8_ring) := ri_okq_of 403 82 401 402 (by decide +kernel) (by decide +kernel)
set_option maxRecDepth 100000 in
theorem o_X8_told : ri_okq (m_X8_told, 2, 1, t_X8_told) := ri_okq_of 454 82 452 453 (by decide +kernel) (by decide +kernel)
set_option maxRecDepth 100000 in
theorem o_X8_at : ri_okq (m_X8_at, 2, 1, t_X8_at) := ri_okq_of 469 82 467 468 (by decide +kernel) (by decide +kernel)
set_option maxRecDepth 100000 in
theorem o_X8_meets : ri_okq (m_X8_meets, 2, 1, t_X8_meets) := ri_okq_of 473 82 471 472 (by decide +kernel) (by decide +kernel)
set_option maxRecDepth 100000 in
theorem o_X8_one : ri_okq (m_X8_one, 2, 1, t_X8_one) := ri_okq_of 478 82 476 477 (by decide +kernel) (by decide +kernel)
set_option maxRecDepth 100000 in
theorem o_X8_heap : ri_okq (m_X8_heap, 1, 1, t_X8_heap) := ri_okq_of 494 82 492 493 (by decide +kernel) (by decide +kernel)
set_option maxRecDepth 100000 in
theorem o_X8_drop : ri_okq (m_X8_drop, 0, 1, t_X8_drop) := ri_okq_of 502 82 500 501 (by decide +kernel) (by decide +kernel)
set_option maxRecDepth 100000 in
theorem o_X8_count : ri_okq (m_X8_count, 1, 1, t_X8_count) := ri_okq_of 506 82 504 505 (by decide +kernel) (by decide +kernel)
set_option maxRecDepth 100000 in
theorem o_X8_feed : ri_okq (m_X8_feed, 2, 1, t_X8_feed) := ri_okq_of 510 82 508 509 (by decide +kernel) (by decide +kernel)
end
