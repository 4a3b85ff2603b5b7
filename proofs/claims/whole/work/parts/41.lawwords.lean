theorem kw_572 : Cond.methodLink RL 13 yX7_feed ∈ tWALL := tin1 (List.mem_of_getElem? (i := 187) (by decide +kernel)) rfl
theorem kw_573 : Cond.instanceMethod yX7_feed ∈ tWALL := tin1 (List.mem_of_getElem? (i := 188) (by decide +kernel)) rfl
theorem kw_574 : Cond.selects RX7 yX7_feed yX7_feed ∈ tWALL := tin1 (List.mem_of_getElem? (i := 189) (by decide +kernel)) rfl
theorem kw_575 : Cond.methodLink RL 17 yX8_feed ∈ tWALL := tin3 (List.mem_of_getElem? (i := 188) (by decide +kernel)) rfl
theorem kw_576 : Cond.instanceMethod yX8_feed ∈ tWALL := tin3 (List.mem_of_getElem? (i := 189) (by decide +kernel)) rfl
theorem kw_577 : Cond.selects RX8 yX8_feed yX8_feed ∈ tWALL := tin3 (List.mem_of_getElem? (i := 190) (by decide +kernel)) rfl
theorem kw_578 : Cond.methodLink RL 18 yX7_word ∈ tWALL := tin1 (List.mem_of_getElem? (i := 203) (by decide +kernel)) rfl
theorem kw_579 : Cond.instanceMethod yX7_word ∈ tWALL := tin1 (List.mem_of_getElem? (i := 204) (by decide +kernel)) rfl
theorem kw_580 : Cond.selects RX7 yX7_word yX7_word ∈ tWALL := tin1 (List.mem_of_getElem? (i := 205) (by decide +kernel)) rfl
theorem kw_581 : Cond.methodLink RL 22 yX8_word ∈ tWALL := tin3 (List.mem_of_getElem? (i := 196) (by decide +kernel)) rfl
theorem kw_582 : Cond.instanceMethod yX8_word ∈ tWALL := tin3 (List.mem_of_getElem? (i := 197) (by decide +kernel)) rfl
theorem kw_583 : Cond.selects RX8 yX8_word yX8_word ∈ tWALL := tin3 (List.mem_of_getElem? (i := 198) (by decide +kernel)) rfl
theorem kw_584 : Cond.methodLink RL 23 yX7_piper ∈ tWALL := tin2 (List.mem_of_getElem? (i := 7) (by decide +kernel)) rfl
theorem kw_585 : Cond.instanceMethod yX7_piper ∈ tWALL := tin2 (List.mem_of_getElem? (i := 8) (by decide +kernel)) rfl
theorem kw_586 : Cond.selects RX7 yX7_piper yX7_piper ∈ tWALL := tin2 (List.mem_of_getElem? (i := 9) (by decide +kernel)) rfl
theorem kw_587 : Cond.methodLink RL 27 yX8_piper ∈ tWALL := tin3 (List.mem_of_getElem? (i := 217) (by decide +kernel)) rfl
theorem kw_588 : Cond.instanceMethod yX8_piper ∈ tWALL := tin3 (List.mem_of_getElem? (i := 218) (by decide +kernel)) rfl
theorem kw_589 : Cond.selects RX8 yX8_piper yX8_piper ∈ tWALL := tin3 (List.mem_of_getElem? (i := 219) (by decide +kernel)) rfl
theorem kw_590 : Cond.methodLink RL 28 yX7_ill ∈ tWALL := tin2 (List.mem_of_getElem? (i := 16) (by decide +kernel)) rfl
theorem kw_591 : Cond.instanceMethod yX7_ill ∈ tWALL := tin2 (List.mem_of_getElem? (i := 17) (by decide +kernel)) rfl
theorem kw_592 : Cond.selects RX7 yX7_ill yX7_ill ∈ tWALL := tin2 (List.mem_of_getElem? (i := 18) (by decide +kernel)) rfl
theorem kw_593 : Cond.methodLink RL 32 yX8_ill ∈ tWALL := tin3 (List.mem_of_getElem? (i := 221) (by decide +kernel)) rfl
theorem kw_594 : Cond.instanceMethod yX8_ill ∈ tWALL := tin3 (List.mem_of_getElem? (i := 222) (by decide +kernel)) rfl
theorem kw_595 : Cond.selects RX8 yX8_ill yX8_ill ∈ tWALL := tin3 (List.mem_of_getElem? (i := 223) (by decide +kernel)) rfl
theorem kw_596 : Cond.methodLink RL 33 yX7_old ∈ tWALL := tin2 (List.mem_of_getElem? (i := 24) (by decide +kernel)) rfl
theorem kw_597 : Cond.instanceMethod yX7_old ∈ tWALL := tin2 (List.mem_of_getElem? (i := 25) (by decide +kernel)) rfl
theorem kw_598 : Cond.selects RX7 yX7_old yX7_old ∈ tWALL := tin2 (List.mem_of_getElem? (i := 26) (by decide +kernel)) rfl
theorem kw_599 : Cond.methodLink RL 37 yX8_old ∈ tWALL := tin3 (List.mem_of_getElem? (i := 229) (by decide +kernel)) rfl
theorem kw_600 : Cond.instanceMethod yX8_old ∈ tWALL := tin3 (List.mem_of_getElem? (i := 230) (by decide +kernel)) rfl
theorem kw_601 : Cond.selects RX8 yX8_old yX8_old ∈ tWALL := tin3 (List.mem_of_getElem? (i := 231) (by decide +kernel)) rfl
theorem kw_602 : Cond.methodLink RL 38 yX7_pieces ∈ tWALL := tin2 (List.mem_of_getElem? (i := 28) (by decide +kernel)) rfl
theorem kw_603 : Cond.instanceMethod yX7_pieces ∈ tWALL := tin2 (List.mem_of_getElem? (i := 29) (by decide +kernel)) rfl
theorem kw_604 : Cond.selects RX7 yX7_pieces yX7_pieces ∈ tWALL := tin2 (List.mem_of_getElem? (i := 30) (by decide +kernel)) rfl
theorem kw_605 : Cond.methodLink RL 42 yX8_pieces ∈ tWALL := tin3 (List.mem_of_getElem? (i := 233) (by decide +kernel)) rfl
theorem kw_606 : Cond.instanceMethod yX8_pieces ∈ tWALL := tin3 (List.mem_of_getElem? (i := 234) (by decide +kernel)) rfl
theorem kw_607 : Cond.selects RX8 yX8_pieces yX8_pieces ∈ tWALL := tin3 (List.mem_of_getElem? (i := 235) (by decide +kernel)) rfl
theorem kw_608 : Cond.methodLink RL 43 yX7_call ∈ tWALL := tin2 (List.mem_of_getElem? (i := 32) (by decide +kernel)) rfl
theorem kw_609 : Cond.instanceMethod yX7_call ∈ tWALL := tin2 (List.mem_of_getElem? (i := 33) (by decide +kernel)) rfl
theorem kw_610 : Cond.selects RX7 yX7_call yX7_call ∈ tWALL := tin2 (List.mem_of_getElem? (i := 34) (by decide +kernel)) rfl
theorem kw_611 : Cond.methodLink RL 47 yX8_call ∈ tWALL := tin3 (List.mem_of_getElem? (i := 237) (by decide +kernel)) rfl
theorem kw_612 : Cond.instanceMethod yX8_call ∈ tWALL := tin3 (List.mem_of_getElem? (i := 238) (by decide +kernel)) rfl
theorem kw_613 : Cond.selects RX8 yX8_call yX8_call ∈ tWALL := tin3 (List.mem_of_getElem? (i := 239) (by decide +kernel)) rfl
theorem kw_614 : Cond.methodLink RL 48 yX7_off ∈ tWALL := tin2 (List.mem_of_getElem? (i := 53) (by decide +kernel)) rfl
theorem kw_615 : Cond.instanceMethod yX7_off ∈ tWALL := tin2 (List.mem_of_getElem? (i := 54) (by decide +kernel)) rfl
theorem kw_616 : Cond.selects RX7 yX7_off yX7_off ∈ tWALL := tin2 (List.mem_of_getElem? (i := 55) (by decide +kernel)) rfl
theorem kw_617 : Cond.methodLink RL 51 yX8_off ∈ tWALL := tin4 (List.mem_of_getElem? (i := 8) (by decide +kernel)) rfl
theorem kw_618 : Cond.instanceMethod yX8_off ∈ tWALL := tin4 (List.mem_of_getElem? (i := 9) (by decide +kernel)) rfl
theorem kw_619 : Cond.selects RX8 yX8_off yX8_off ∈ tWALL := tin4 (List.mem_of_getElem? (i := 10) (by decide +kernel)) rfl
theorem kw_620 : Cond.methodLink RL 52 yX7_played ∈ tWALL := tin2 (List.mem_of_getElem? (i := 65) (by decide +kernel)) rfl
theorem kw_621 : Cond.instanceMethod yX7_played ∈ tWALL := tin2 (List.mem_of_getElem? (i := 66) (by decide +kernel)) rfl
theorem kw_622 : Cond.selects RX7 yX7_played yX7_played ∈ tWALL := tin2 (List.mem_of_getElem? (i := 67) (by decide +kernel)) rfl
theorem kw_623 : Cond.methodLink RL 56 yX8_played ∈ tWALL := tin4 (List.mem_of_getElem? (i := 12) (by decide +kernel)) rfl
theorem kw_624 : Cond.instanceMethod yX8_played ∈ tWALL := tin4 (List.mem_of_getElem? (i := 13) (by decide +kernel)) rfl
theorem kw_625 : Cond.selects RX8 yX8_played yX8_played ∈ tWALL := tin4 (List.mem_of_getElem? (i := 14) (by decide +kernel)) rfl
theorem kw_626 : Cond.methodLink RL 57 yX7_who ∈ tWALL := tin2 (List.mem_of_getElem? (i := 221) (by decide +kernel)) rfl
theorem kw_627 : Cond.instanceMethod yX7_who ∈ tWALL := tin2 (List.mem_of_getElem? (i := 222) (by decide +kernel)) rfl
theorem kw_628 : Cond.selects RX7 yX7_who yX7_who ∈ tWALL := tin2 (List.mem_of_getElem? (i := 223) (by decide +kernel)) rfl
theorem kw_629 : Cond.methodLink RL 60 yX8_who ∈ tWALL := tin4 (List.mem_of_getElem? (i := 58) (by decide +kernel)) rfl
theorem kw_630 : Cond.instanceMethod yX8_who ∈ tWALL := tin4 (List.mem_of_getElem? (i := 59) (by decide +kernel)) rfl
theorem kw_631 : Cond.selects RX8 yX8_who yX8_who ∈ tWALL := tin4 (List.mem_of_getElem? (i := 60) (by decide +kernel)) rfl
theorem kw_632 : Cond.methodLink RL 61 yX7_tune ∈ tWALL := tin2 (List.mem_of_getElem? (i := 233) (by decide +kernel)) rfl
theorem kw_633 : Cond.instanceMethod yX7_tune ∈ tWALL := tin2 (List.mem_of_getElem? (i := 234) (by decide +kernel)) rfl
theorem kw_634 : Cond.selects RX7 yX7_tune yX7_tune ∈ tWALL := tin2 (List.mem_of_getElem? (i := 235) (by decide +kernel)) rfl
theorem kw_635 : Cond.methodLink RL 64 yX8_tune ∈ tWALL := tin4 (List.mem_of_getElem? (i := 66) (by decide +kernel)) rfl
theorem kw_636 : Cond.instanceMethod yX8_tune ∈ tWALL := tin4 (List.mem_of_getElem? (i := 67) (by decide +kernel)) rfl
theorem kw_637 : Cond.selects RX8 yX8_tune yX8_tune ∈ tWALL := tin4 (List.mem_of_getElem? (i := 68) (by decide +kernel)) rfl
theorem kw_638 : Cond.methodLink RL 65 yX7_heard ∈ tWALL := tin3 (List.mem_of_getElem? (i := 1) (by decide +kernel)) rfl
theorem kw_639 : Cond.instanceMethod yX7_heard ∈ tWALL := tin3 (List.mem_of_getElem? (i := 2) (by decide +kernel)) rfl
theorem kw_640 : Cond.selects RX7 yX7_heard yX7_heard ∈ tWALL := tin3 (List.mem_of_getElem? (i := 3) (by decide +kernel)) rfl
theorem kw_641 : Cond.methodLink RL 68 yX8_heard ∈ tWALL := tin4 (List.mem_of_getElem? (i := 70) (by decide +kernel)) rfl
theorem kw_642 : Cond.instanceMethod yX8_heard ∈ tWALL := tin4 (List.mem_of_getElem? (i := 71) (by decide +kernel)) rfl
theorem kw_643 : Cond.selects RX8 yX8_heard yX8_heard ∈ tWALL := tin4 (List.mem_of_getElem? (i := 72) (by decide +kernel)) rfl
theorem kw_644 : Cond.methodLink RL 69 yX7_share ∈ tWALL := tin3 (List.mem_of_getElem? (i := 9) (by decide +kernel)) rfl
theorem kw_645 : Cond.instanceMethod yX7_share ∈ tWALL := tin3 (List.mem_of_getElem? (i := 10) (by decide +kernel)) rfl
theorem kw_646 : Cond.selects RX7 yX7_share yX7_share ∈ tWALL := tin3 (List.mem_of_getElem? (i := 11) (by decide +kernel)) rfl
theorem kw_647 : Cond.methodLink RL 72 yX8_share ∈ tWALL := tin4 (List.mem_of_getElem? (i := 82) (by decide +kernel)) rfl
theorem kw_648 : Cond.instanceMethod yX8_share ∈ tWALL := tin4 (List.mem_of_getElem? (i := 83) (by decide +kernel)) rfl
theorem kw_649 : Cond.selects RX8 yX8_share yX8_share ∈ tWALL := tin4 (List.mem_of_getElem? (i := 84) (by decide +kernel)) rfl
theorem kw_650 : Cond.methodLink RL 73 yX7_day ∈ tWALL := tin3 (List.mem_of_getElem? (i := 30) (by decide +kernel)) rfl
theorem kw_651 : Cond.instanceMethod yX7_day ∈ tWALL := tin3 (List.mem_of_getElem? (i := 31) (by decide +kernel)) rfl
theorem kw_652 : Cond.selects RX7 yX7_day yX7_day ∈ tWALL := tin3 (List.mem_of_getElem? (i := 32) (by decide +kernel)) rfl
theorem kw_653 : Cond.methodLink RL 76 yX8_day ∈ tWALL := tin4 (List.mem_of_getElem? (i := 94) (by decide +kernel)) rfl
theorem kw_654 : Cond.instanceMethod yX8_day ∈ tWALL := tin4 (List.mem_of_getElem? (i := 95) (by decide +kernel)) rfl
theorem kw_655 : Cond.selects RX8 yX8_day yX8_day ∈ tWALL := tin4 (List.mem_of_getElem? (i := 96) (by decide +kernel)) rfl
theorem kw_656 : Cond.methodLink RL 77 yX7_lasts ∈ tWALL := tin3 (List.mem_of_getElem? (i := 54) (by decide +kernel)) rfl
theorem kw_657 : Cond.instanceMethod yX7_lasts ∈ tWALL := tin3 (List.mem_of_getElem? (i := 55) (by decide +kernel)) rfl
theorem kw_658 : Cond.selects RX7 yX7_lasts yX7_lasts ∈ tWALL := tin3 (List.mem_of_getElem? (i := 56) (by decide +kernel)) rfl
theorem kw_659 : Cond.methodLink RL 80 yX8_lasts ∈ tWALL := tin4 (List.mem_of_getElem? (i := 102) (by decide +kernel)) rfl
theorem kw_660 : Cond.instanceMethod yX8_lasts ∈ tWALL := tin4 (List.mem_of_getElem? (i := 103) (by decide +kernel)) rfl
theorem kw_661 : Cond.selects RX8 yX8_lasts yX8_lasts ∈ tWALL := tin4 (List.mem_of_getElem? (i := 104) (by decide +kernel)) rfl
theorem kw_662 : Cond.methodLink RL 81 yX7_look ∈ tWALL := tin3 (List.mem_of_getElem? (i := 58) (by decide +kernel)) rfl
theorem kw_663 : Cond.instanceMethod yX7_look ∈ tWALL := tin3 (List.mem_of_getElem? (i := 59) (by decide +kernel)) rfl
theorem kw_664 : Cond.selects RX7 yX7_look yX7_look ∈ tWALL := tin3 (List.mem_of_getElem? (i := 60) (by decide +kernel)) rfl
theorem kw_665 : Cond.methodLink RL 84 yX8_look ∈ tWALL := tin4 (List.mem_of_getElem? (i := 106) (by decide +kernel)) rfl
theorem kw_666 : Cond.instanceMethod yX8_look ∈ tWALL := tin4 (List.mem_of_getElem? (i := 107) (by decide +kernel)) rfl
theorem kw_667 : Cond.selects RX8 yX8_look yX8_look ∈ tWALL := tin4 (List.mem_of_getElem? (i := 108) (by decide +kernel)) rfl
theorem kw_668 : Cond.methodLink RL 85 yX7_wages ∈ tWALL := tin3 (List.mem_of_getElem? (i := 70) (by decide +kernel)) rfl
theorem kw_669 : Cond.instanceMethod yX7_wages ∈ tWALL := tin3 (List.mem_of_getElem? (i := 71) (by decide +kernel)) rfl
theorem kw_670 : Cond.selects RX7 yX7_wages yX7_wages ∈ tWALL := tin3 (List.mem_of_getElem? (i := 72) (by decide +kernel)) rfl
theorem kw_671 : Cond.methodLink RL 88 yX8_wages ∈ tWALL := tin4 (List.mem_of_getElem? (i := 110) (by decide +kernel)) rfl
theorem kw_672 : Cond.instanceMethod yX8_wages ∈ tWALL := tin4 (List.mem_of_getElem? (i := 111) (by decide +kernel)) rfl
theorem kw_673 : Cond.selects RX8 yX8_wages yX8_wages ∈ tWALL := tin4 (List.mem_of_getElem? (i := 112) (by decide +kernel)) rfl
theorem kw_674 : Cond.methodLink RL 89 yX7_about ∈ tWALL := tin3 (List.mem_of_getElem? (i := 74) (by decide +kernel)) rfl
theorem kw_675 : Cond.instanceMethod yX7_about ∈ tWALL := tin3 (List.mem_of_getElem? (i := 75) (by decide +kernel)) rfl
theorem kw_676 : Cond.selects RX7 yX7_about yX7_about ∈ tWALL := tin3 (List.mem_of_getElem? (i := 76) (by decide +kernel)) rfl
theorem kw_677 : Cond.methodLink RL 92 yX8_about ∈ tWALL := tin4 (List.mem_of_getElem? (i := 114) (by decide +kernel)) rfl
theorem kw_678 : Cond.instanceMethod yX8_about ∈ tWALL := tin4 (List.mem_of_getElem? (i := 115) (by decide +kernel)) rfl
theorem kw_679 : Cond.selects RX8 yX8_about yX8_about ∈ tWALL := tin4 (List.mem_of_getElem? (i := 116) (by decide +kernel)) rfl
theorem kw_680 : Cond.methodLink RL 93 yX7_count ∈ tWALL := tin3 (List.mem_of_getElem? (i := 78) (by decide +kernel)) rfl
theorem kw_681 : Cond.instanceMethod yX7_count ∈ tWALL := tin3 (List.mem_of_getElem? (i := 79) (by decide +kernel)) rfl
theorem kw_682 : Cond.selects RX7 yX7_count yX7_count ∈ tWALL := tin3 (List.mem_of_getElem? (i := 80) (by decide +kernel)) rfl
theorem kw_683 : Cond.methodLink RL 96 yX8_count ∈ tWALL := tin4 (List.mem_of_getElem? (i := 118) (by decide +kernel)) rfl
theorem kw_684 : Cond.instanceMethod yX8_count ∈ tWALL := tin4 (List.mem_of_getElem? (i := 119) (by decide +kernel)) rfl
theorem kw_685 : Cond.selects RX8 yX8_count yX8_count ∈ tWALL := tin4 (List.mem_of_getElem? (i := 120) (by decide +kernel)) rfl
