theorem kw_523 : Cond.methodLink RX4 3 objectInit ∈ tWALL := tin1 (List.mem_of_getElem? (i := 27) (by decide +kernel)) rfl
theorem kw_524 : Cond.instanceMethod objectInit ∈ tWALL := tin1 (List.mem_of_getElem? (i := 20) (by decide +kernel)) rfl
theorem kw_525 : Cond.code objectInit ⟨#[0xb1]⟩ 1 none ∈ tWALL := tin1 (List.mem_of_getElem? (i := 21) (by decide +kernel)) rfl
theorem kw_526 : Cond.arrayClass .int ∈ tWALL := tin1 (List.mem_of_getElem? (i := 35) (by decide +kernel)) rfl
theorem kw_527 : Cond.methodLink RX5 3 objectInit ∈ tWALL := tin1 (List.mem_of_getElem? (i := 41) (by decide +kernel)) rfl
theorem kw_528 : Cond.methodLink RX2 1 objectInit ∈ tWALL := tin1 (List.mem_of_getElem? (i := 100) (by decide +kernel)) rfl
theorem kw_529 : Cond.fieldLink RX2 19 "TowerPipers$Piper" "wages" "I" ∈ tWALL := tin1 (List.mem_of_getElem? (i := 107) (by decide +kernel)) rfl
theorem kw_530 : Cond.methodLink RX0 3 objectInit ∈ tWALL := tin1 (List.mem_of_getElem? (i := 122) (by decide +kernel)) rfl
theorem kw_531 : Cond.methodLink RX6 3 objectInit ∈ tWALL := tin1 (List.mem_of_getElem? (i := 135) (by decide +kernel)) rfl
theorem kw_532 : Cond.methodLink RX1 3 objectInit ∈ tWALL := tin1 (List.mem_of_getElem? (i := 66) (by decide +kernel)) rfl
theorem kw_533 : Cond.methodLink RX3 3 objectInit ∈ tWALL := tin1 (List.mem_of_getElem? (i := 60) (by decide +kernel)) rfl
theorem kw_534 : Cond.code yX1_init cX1_init 1 none ∈ tWALL := tin1 (List.mem_of_getElem? (i := 65) (by decide +kernel)) rfl
theorem kw_535 : Cond.classLink RX3 9 RX1 ∈ tWALL := tin1 (List.mem_of_getElem? (i := 61) (by decide +kernel)) rfl
theorem kw_536 : Cond.instantiable RX1 5 ∈ tWALL := tin1 (List.mem_of_getElem? (i := 62) (by decide +kernel)) rfl
theorem kw_537 : Cond.methodLinkNest RX3 11 yX1_init "TowerPipers" ∈ tNEST := tne1 (List.mem_of_getElem? (i := 63) (by decide +kernel)) rfl
theorem kw_538 : Cond.instanceMethod yX1_init ∈ tWALL := tin1 (List.mem_of_getElem? (i := 64) (by decide +kernel)) rfl
theorem kw_539 : Cond.methodLink RX7 1 objectInit ∈ tWALL := tin1 (List.mem_of_getElem? (i := 19) (by decide +kernel)) rfl
theorem kw_540 : Cond.code yX4_init cX4_init 1 none ∈ tWALL := tin1 (List.mem_of_getElem? (i := 26) (by decide +kernel)) rfl
theorem kw_541 : Cond.classLink RX7 7 RX4 ∈ tWALL := tin1 (List.mem_of_getElem? (i := 22) (by decide +kernel)) rfl
theorem kw_542 : Cond.instantiable RX4 2 ∈ tWALL := tin1 (List.mem_of_getElem? (i := 23) (by decide +kernel)) rfl
theorem kw_543 : Cond.methodLinkNest RX7 9 yX4_init "TowerPipers" ∈ tNEST := tne1 (List.mem_of_getElem? (i := 24) (by decide +kernel)) rfl
theorem kw_544 : Cond.instanceMethod yX4_init ∈ tWALL := tin1 (List.mem_of_getElem? (i := 25) (by decide +kernel)) rfl
theorem kw_545 : Cond.code yX5_init cX5_init 1 none ∈ tWALL := tin1 (List.mem_of_getElem? (i := 40) (by decide +kernel)) rfl
theorem kw_546 : Cond.classLink RX7 16 RX5 ∈ tWALL := tin1 (List.mem_of_getElem? (i := 36) (by decide +kernel)) rfl
theorem kw_547 : Cond.instantiable RX5 2 ∈ tWALL := tin1 (List.mem_of_getElem? (i := 37) (by decide +kernel)) rfl
theorem kw_548 : Cond.methodLinkNest RX7 18 yX5_init "TowerPipers" ∈ tNEST := tne1 (List.mem_of_getElem? (i := 38) (by decide +kernel)) rfl
theorem kw_549 : Cond.instanceMethod yX5_init ∈ tWALL := tin1 (List.mem_of_getElem? (i := 39) (by decide +kernel)) rfl
theorem kw_550 : Cond.classLink RX7 23 RX2 ∈ tWALL := tin1 (List.mem_of_getElem? (i := 49) (by decide +kernel)) rfl
theorem kw_551 : Cond.classLink RX7 29 RX0 ∈ tWALL := tin1 (List.mem_of_getElem? (i := 51) (by decide +kernel)) rfl
theorem kw_552 : Cond.classLink RX7 35 RX6 ∈ tWALL := tin1 (List.mem_of_getElem? (i := 53) (by decide +kernel)) rfl
theorem kw_553 : Cond.code yX3_init cX3_init 1 none ∈ tWALL := tin1 (List.mem_of_getElem? (i := 59) (by decide +kernel)) rfl
theorem kw_554 : Cond.classLink RX7 48 RX3 ∈ tWALL := tin1 (List.mem_of_getElem? (i := 55) (by decide +kernel)) rfl
theorem kw_555 : Cond.instantiable RX3 4 ∈ tWALL := tin1 (List.mem_of_getElem? (i := 56) (by decide +kernel)) rfl
theorem kw_556 : Cond.methodLinkNest RX7 50 yX3_init "TowerPipers" ∈ tNEST := tne1 (List.mem_of_getElem? (i := 57) (by decide +kernel)) rfl
theorem kw_557 : Cond.instanceMethod yX3_init ∈ tWALL := tin1 (List.mem_of_getElem? (i := 58) (by decide +kernel)) rfl
theorem kw_558 : Cond.code yX2_init cX2_init 1 none ∈ tWALL := tin1 (List.mem_of_getElem? (i := 99) (by decide +kernel)) rfl
theorem kw_559 : Cond.instantiable RX2 4 ∈ tWALL := tin1 (List.mem_of_getElem? (i := 96) (by decide +kernel)) rfl
theorem kw_560 : Cond.methodLinkNest RX7 72 yX2_init "TowerPipers" ∈ tNEST := tne1 (List.mem_of_getElem? (i := 97) (by decide +kernel)) rfl
theorem kw_561 : Cond.instanceMethod yX2_init ∈ tWALL := tin1 (List.mem_of_getElem? (i := 98) (by decide +kernel)) rfl
theorem kw_562 : Cond.code yX0_init cX0_init 1 none ∈ tWALL := tin1 (List.mem_of_getElem? (i := 121) (by decide +kernel)) rfl
theorem kw_563 : Cond.instantiable RX0 2 ∈ tWALL := tin1 (List.mem_of_getElem? (i := 118) (by decide +kernel)) rfl
theorem kw_564 : Cond.methodLinkNest RX7 73 yX0_init "TowerPipers" ∈ tNEST := tne1 (List.mem_of_getElem? (i := 119) (by decide +kernel)) rfl
theorem kw_565 : Cond.instanceMethod yX0_init ∈ tWALL := tin1 (List.mem_of_getElem? (i := 120) (by decide +kernel)) rfl
theorem kw_566 : Cond.code yX6_init cX6_init 1 none ∈ tWALL := tin1 (List.mem_of_getElem? (i := 134) (by decide +kernel)) rfl
theorem kw_567 : Cond.instantiable RX6 3 ∈ tWALL := tin1 (List.mem_of_getElem? (i := 131) (by decide +kernel)) rfl
theorem kw_568 : Cond.methodLinkNest RX7 74 yX6_init "TowerPipers" ∈ tNEST := tne1 (List.mem_of_getElem? (i := 132) (by decide +kernel)) rfl
theorem kw_569 : Cond.instanceMethod yX6_init ∈ tWALL := tin1 (List.mem_of_getElem? (i := 133) (by decide +kernel)) rfl
theorem kw_570 : Cond.methodLink RX8 1 objectInit ∈ tWALL := tin3 (List.mem_of_getElem? (i := 95) (by decide +kernel)) rfl
theorem kw_571 : Cond.arrayClass .byte ∈ tWALL := tin3 (List.mem_of_getElem? (i := 187) (by decide +kernel)) rfl
