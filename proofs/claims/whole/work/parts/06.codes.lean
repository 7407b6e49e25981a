set_option maxRecDepth 100000 in
theorem cwX0_init : Cond.code mX0_init.2.1 mX0_init.2.2.1 mX0_init.2.2.2.1 mX0_init.2.2.2.2.1 ∈ mm_Ws := mm_wsC (List.mem_of_getElem? (i := 66) rfl) rfl
set_option maxRecDepth 100000 in
theorem cwX1_init : Cond.code mX1_init.2.1 mX1_init.2.2.1 mX1_init.2.2.2.1 mX1_init.2.2.2.2.1 ∈ mm_Ws := mm_wsC (List.mem_of_getElem? (i := 46) rfl) rfl
set_option maxRecDepth 100000 in
theorem cwX1_hearerAt : Cond.code mX1_hearerAt.2.1 mX1_hearerAt.2.2.1 mX1_hearerAt.2.2.2.1 mX1_hearerAt.2.2.2.2.1 ∈ mm_Ws := mm_wsC (List.mem_of_getElem? (i := 299) rfl) rfl
set_option maxRecDepth 100000 in
theorem cwX1_placeOf : Cond.code mX1_placeOf.2.1 mX1_placeOf.2.2.1 mX1_placeOf.2.2.2.1 mX1_placeOf.2.2.2.2.1 ∈ mm_Ws := mm_wsC (List.mem_of_getElem? (i := 186) rfl) rfl
set_option maxRecDepth 100000 in
theorem cwX1_append : Cond.code mX1_append.2.1 mX1_append.2.2.1 mX1_append.2.2.2.1 mX1_append.2.2.2.2.1 ∈ mm_Ws := mm_wsC (List.mem_of_getElem? (i := 182) rfl) rfl
set_option maxRecDepth 100000 in
theorem cwX1_remove : Cond.code mX1_remove.2.1 mX1_remove.2.2.1 mX1_remove.2.2.2.1 mX1_remove.2.2.2.2.1 ∈ mm_Ws := mm_wsC (List.mem_of_getElem? (i := 194) rfl) rfl
set_option maxRecDepth 100000 in
theorem cwX1_copyLine : Cond.code mX1_copyLine.2.1 mX1_copyLine.2.2.1 mX1_copyLine.2.2.2.1 mX1_copyLine.2.2.2.2.1 ∈ mm_Ws := mm_wsC (List.mem_of_getElem? (i := 214) rfl) rfl
set_option maxRecDepth 100000 in
theorem cwX2_init : Cond.code mX2_init.2.1 mX2_init.2.2.1 mX2_init.2.2.2.1 mX2_init.2.2.2.2.1 ∈ mm_Ws := mm_wsC (List.mem_of_getElem? (i := 21) rfl) rfl
set_option maxRecDepth 100000 in
theorem cwX2_append : Cond.code mX2_append.2.1 mX2_append.2.2.1 mX2_append.2.2.2.1 mX2_append.2.2.2.2.1 ∈ mm_Ws := mm_wsC (List.mem_of_getElem? (i := 248) rfl) rfl
set_option maxRecDepth 100000 in
theorem cwX2_bellAt : Cond.code mX2_bellAt.2.1 mX2_bellAt.2.2.1 mX2_bellAt.2.2.2.1 mX2_bellAt.2.2.2.2.1 ∈ mm_Ws := mm_wsC (List.mem_of_getElem? (i := 307) rfl) rfl
set_option maxRecDepth 100000 in
theorem cwX2_firstBell : Cond.code mX2_firstBell.2.1 mX2_firstBell.2.2.1 mX2_firstBell.2.2.2.1 mX2_firstBell.2.2.2.2.1 ∈ mm_Ws := mm_wsC (List.mem_of_getElem? (i := 267) rfl) rfl
set_option maxRecDepth 100000 in
theorem cwX2_firstValue : Cond.code mX2_firstValue.2.1 mX2_firstValue.2.2.1 mX2_firstValue.2.2.2.1 mX2_firstValue.2.2.2.2.1 ∈ mm_Ws := mm_wsC (List.mem_of_getElem? (i := 271) rfl) rfl
set_option maxRecDepth 100000 in
theorem cwX2_dropFirst : Cond.code mX2_dropFirst.2.1 mX2_dropFirst.2.2.1 mX2_dropFirst.2.2.2.1 mX2_dropFirst.2.2.2.2.1 ∈ mm_Ws := mm_wsC (List.mem_of_getElem? (i := 275) rfl) rfl
set_option maxRecDepth 100000 in
theorem cwX3_init : Cond.code mX3_init.2.1 mX3_init.2.2.1 mX3_init.2.2.2.1 mX3_init.2.2.2.2.1 ∈ mm_Ws := mm_wsC (List.mem_of_getElem? (i := 11) rfl) rfl
set_option maxRecDepth 100000 in
theorem cwX3_tally : Cond.code mX3_tally.2.1 mX3_tally.2.2.1 mX3_tally.2.2.2.1 mX3_tally.2.2.2.2.1 ∈ mm_Ws := mm_wsC (List.mem_of_getElem? (i := 151) rfl) rfl
set_option maxRecDepth 100000 in
theorem cwX3_way : Cond.code mX3_way.2.1 mX3_way.2.2.1 mX3_way.2.2.2.1 mX3_way.2.2.2.2.1 ∈ mm_Ws := mm_wsC (List.mem_of_getElem? (i := 159) rfl) rfl
set_option maxRecDepth 100000 in
theorem cwX3_hearer : Cond.code mX3_hearer.2.1 mX3_hearer.2.2.1 mX3_hearer.2.2.2.1 mX3_hearer.2.2.2.2.1 ∈ mm_Ws := mm_wsC (List.mem_of_getElem? (i := 166) rfl) rfl
set_option maxRecDepth 100000 in
theorem cwX3_bind : Cond.code mX3_bind.2.1 mX3_bind.2.2.1 mX3_bind.2.2.2.1 mX3_bind.2.2.2.2.1 ∈ mm_Ws := mm_wsC (List.mem_of_getElem? (i := 178) rfl) rfl
set_option maxRecDepth 100000 in
theorem cwX3_leave : Cond.code mX3_leave.2.1 mX3_leave.2.2.1 mX3_leave.2.2.2.1 mX3_leave.2.2.2.2.1 ∈ mm_Ws := mm_wsC (List.mem_of_getElem? (i := 190) rfl) rfl
set_option maxRecDepth 100000 in
theorem cwX3_take : Cond.code mX3_take.2.1 mX3_take.2.2.1 mX3_take.2.2.2.1 mX3_take.2.2.2.2.1 ∈ mm_Ws := mm_wsC (List.mem_of_getElem? (i := 198) rfl) rfl
set_option maxRecDepth 100000 in
theorem cwX3_lend : Cond.code mX3_lend.2.1 mX3_lend.2.2.1 mX3_lend.2.2.2.1 mX3_lend.2.2.2.2.1 ∈ mm_Ws := mm_wsC (List.mem_of_getElem? (i := 202) rfl) rfl
set_option maxRecDepth 100000 in
theorem cwX3_ring : Cond.code mX3_ring.2.1 mX3_ring.2.2.1 mX3_ring.2.2.2.1 mX3_ring.2.2.2.2.1 ∈ mm_Ws := mm_wsC (List.mem_of_getElem? (i := 206) rfl) rfl
set_option maxRecDepth 100000 in
theorem cwX3_drain : Cond.code mX3_drain.2.1 mX3_drain.2.2.1 mX3_drain.2.2.2.1 mX3_drain.2.2.2.2.1 ∈ mm_Ws := mm_wsC (List.mem_of_getElem? (i := 283) rfl) rfl
set_option maxRecDepth 100000 in
theorem cwX3_act : Cond.code mX3_act.2.1 mX3_act.2.2.1 mX3_act.2.2.2.1 mX3_act.2.2.2.2.1 ∈ mm_Ws := mm_wsC (List.mem_of_getElem? (i := 287) rfl) rfl
set_option maxRecDepth 100000 in
theorem cwX3_get : Cond.code mX3_get.2.1 mX3_get.2.2.1 mX3_get.2.2.2.1 mX3_get.2.2.2.2.1 ∈ mm_Ws := mm_wsC (List.mem_of_getElem? (i := 291) rfl) rfl
set_option maxRecDepth 100000 in
theorem cwX3_line : Cond.code mX3_line.2.1 mX3_line.2.2.1 mX3_line.2.2.2.1 mX3_line.2.2.2.2.1 ∈ mm_Ws := mm_wsC (List.mem_of_getElem? (i := 295) rfl) rfl
set_option maxRecDepth 100000 in
theorem cwX3_queued : Cond.code mX3_queued.2.1 mX3_queued.2.2.1 mX3_queued.2.2.2.1 mX3_queued.2.2.2.2.1 ∈ mm_Ws := mm_wsC (List.mem_of_getElem? (i := 303) rfl) rfl
set_option maxRecDepth 100000 in
theorem cwX3_count : Cond.code mX3_count.2.1 mX3_count.2.2.1 mX3_count.2.2.2.1 mX3_count.2.2.2.2.1 ∈ mm_Ws := mm_wsC (List.mem_of_getElem? (i := 311) rfl) rfl
set_option maxRecDepth 100000 in
theorem cwX3_done : Cond.code mX3_done.2.1 mX3_done.2.2.1 mX3_done.2.2.2.1 mX3_done.2.2.2.2.1 ∈ mm_Ws := mm_wsC (List.mem_of_getElem? (i := 315) rfl) rfl
set_option maxRecDepth 100000 in
theorem cwX3_isTally : Cond.code mX3_isTally.2.1 mX3_isTally.2.2.1 mX3_isTally.2.2.2.1 mX3_isTally.2.2.2.2.1 ∈ mm_Ws := mm_wsC (List.mem_of_getElem? (i := 154) rfl) rfl
set_option maxRecDepth 100000 in
theorem cwX3_isBell : Cond.code mX3_isBell.2.1 mX3_isBell.2.2.1 mX3_isBell.2.2.2.1 mX3_isBell.2.2.2.2.1 ∈ mm_Ws := mm_wsC (List.mem_of_getElem? (i := 162) rfl) rfl
set_option maxRecDepth 100000 in
theorem cwX3_isHearer : Cond.code mX3_isHearer.2.1 mX3_isHearer.2.2.1 mX3_isHearer.2.2.2.1 mX3_isHearer.2.2.2.2.1 ∈ mm_Ws := mm_wsC (List.mem_of_getElem? (i := 174) rfl) rfl
set_option maxRecDepth 100000 in
theorem cwX3_canBeMade : Cond.code mX3_canBeMade.2.1 mX3_canBeMade.2.2.1 mX3_canBeMade.2.2.2.1 mX3_canBeMade.2.2.2.2.1 ∈ mm_Ws := mm_wsC (List.mem_of_getElem? (i := 170) rfl) rfl
set_option maxRecDepth 100000 in
theorem cwX3_makeHearer : Cond.code mX3_makeHearer.2.1 mX3_makeHearer.2.2.1 mX3_makeHearer.2.2.2.1 mX3_makeHearer.2.2.2.2.1 ∈ mm_Ws := mm_wsC (List.mem_of_getElem? (i := 62) rfl) rfl
set_option maxRecDepth 100000 in
theorem cwX3_answerOfCall : Cond.code mX3_answerOfCall.2.1 mX3_answerOfCall.2.2.1 mX3_answerOfCall.2.2.2.1 mX3_answerOfCall.2.2.2.2.1 ∈ mm_Ws := mm_wsC (List.mem_of_getElem? (i := 279) rfl) rfl
set_option maxRecDepth 100000 in
theorem cwX3_ringQueueAfter : Cond.code mX3_ringQueueAfter.2.1 mX3_ringQueueAfter.2.2.1 mX3_ringQueueAfter.2.2.2.1 mX3_ringQueueAfter.2.2.2.2.1 ∈ mm_Ws := mm_wsC (List.mem_of_getElem? (i := 263) rfl) rfl
set_option maxRecDepth 100000 in
theorem cwX3_ringBell : Cond.code mX3_ringBell.2.1 mX3_ringBell.2.2.1 mX3_ringBell.2.2.2.1 mX3_ringBell.2.2.2.2.1 ∈ mm_Ws := mm_wsC (List.mem_of_getElem? (i := 210) rfl) rfl
set_option maxRecDepth 100000 in
theorem cwX3_perform : Cond.code mX3_perform.2.1 mX3_perform.2.2.1 mX3_perform.2.2.2.1 mX3_perform.2.2.2.2.1 ∈ mm_Ws := mm_wsC (List.mem_of_getElem? (i := 219) rfl) rfl
set_option maxRecDepth 100000 in
theorem cwX3_performAlone : Cond.code mX3_performAlone.2.1 mX3_performAlone.2.2.1 mX3_performAlone.2.2.2.1 mX3_performAlone.2.2.2.2.1 ∈ mm_Ws := mm_wsC (List.mem_of_getElem? (i := 233) rfl) rfl
set_option maxRecDepth 100000 in
theorem cwX3_shareTally : Cond.code mX3_shareTally.2.1 mX3_shareTally.2.2.1 mX3_shareTally.2.2.2.1 mX3_shareTally.2.2.2.2.1 ∈ mm_Ws := mm_wsC (List.mem_of_getElem? (i := 240) rfl) rfl
set_option maxRecDepth 100000 in
theorem cwX3_addAtPlace : Cond.code mX3_addAtPlace.2.1 mX3_addAtPlace.2.2.1 mX3_addAtPlace.2.2.2.1 mX3_addAtPlace.2.2.2.2.1 ∈ mm_Ws := mm_wsC (List.mem_of_getElem? (i := 244) rfl) rfl
set_option maxRecDepth 100000 in
theorem cwX3_removeFromAllLines : Cond.code mX3_removeFromAllLines.2.1 mX3_removeFromAllLines.2.2.1 mX3_removeFromAllLines.2.2.2.1 mX3_removeFromAllLines.2.2.2.2.1 ∈ mm_Ws := mm_wsC (List.mem_of_getElem? (i := 252) rfl) rfl
set_option maxRecDepth 100000 in
theorem cwX3_metByBell : Cond.code mX3_metByBell.2.1 mX3_metByBell.2.2.1 mX3_metByBell.2.2.2.1 mX3_metByBell.2.2.2.2.1 ∈ mm_Ws := mm_wsC (List.mem_of_getElem? (i := 256) rfl) rfl
set_option maxRecDepth 100000 in
theorem cwX3_metByTry : Cond.code mX3_metByTry.2.1 mX3_metByTry.2.2.1 mX3_metByTry.2.2.2.1 mX3_metByTry.2.2.2.2.1 ∈ mm_Ws := mm_wsC (List.mem_of_getElem? (i := 226) rfl) rfl
set_option maxRecDepth 100000 in
theorem cwX3_canBeMet : Cond.code mX3_canBeMet.2.1 mX3_canBeMet.2.2.1 mX3_canBeMet.2.2.2.1 mX3_canBeMet.2.2.2.2.1 ∈ mm_Ws := mm_wsC (List.mem_of_getElem? (i := 229) rfl) rfl
set_option maxRecDepth 100000 in
theorem cwX3_wellIfStopped : Cond.code mX3_wellIfStopped.2.1 mX3_wellIfStopped.2.2.1 mX3_wellIfStopped.2.2.2.1 mX3_wellIfStopped.2.2.2.2.1 ∈ mm_Ws := mm_wsC (List.mem_of_getElem? (i := 259) rfl) rfl
set_option maxRecDepth 100000 in
theorem cwX4_init : Cond.code mX4_init.2.1 mX4_init.2.2.1 mX4_init.2.2.2.1 mX4_init.2.2.2.2.1 ∈ mm_Ws := mm_wsC (List.mem_of_getElem? (i := 320) rfl) rfl
set_option maxRecDepth 100000 in
theorem cwX4_in : Cond.code mX4_in.2.1 mX4_in.2.2.1 mX4_in.2.2.2.1 mX4_in.2.2.2.2.1 ∈ mm_Ws := mm_wsC (List.mem_of_getElem? (i := 330) rfl) rfl
set_option maxRecDepth 100000 in
theorem cwX4_isHearer : Cond.code mX4_isHearer.2.1 mX4_isHearer.2.2.1 mX4_isHearer.2.2.2.1 mX4_isHearer.2.2.2.2.1 ∈ mm_Ws := mm_wsC (List.mem_of_getElem? (i := 449) rfl) rfl
set_option maxRecDepth 100000 in
theorem cwX4_isBell : Cond.code mX4_isBell.2.1 mX4_isBell.2.2.1 mX4_isBell.2.2.2.1 mX4_isBell.2.2.2.2.1 ∈ mm_Ws := mm_wsC (List.mem_of_getElem? (i := 439) rfl) rfl
set_option maxRecDepth 100000 in
theorem cwX4_isTally : Cond.code mX4_isTally.2.1 mX4_isTally.2.2.1 mX4_isTally.2.2.2.1 mX4_isTally.2.2.2.2.1 ∈ mm_Ws := mm_wsC (List.mem_of_getElem? (i := 431) rfl) rfl
set_option maxRecDepth 100000 in
theorem cwX4_tally : Cond.code mX4_tally.2.1 mX4_tally.2.2.1 mX4_tally.2.2.2.1 mX4_tally.2.2.2.2.1 ∈ mm_Ws := mm_wsC (List.mem_of_getElem? (i := 428) rfl) rfl
set_option maxRecDepth 100000 in
theorem cwX4_way : Cond.code mX4_way.2.1 mX4_way.2.2.1 mX4_way.2.2.2.1 mX4_way.2.2.2.2.1 ∈ mm_Ws := mm_wsC (List.mem_of_getElem? (i := 436) rfl) rfl
set_option maxRecDepth 100000 in
theorem cwX4_make : Cond.code mX4_make.2.1 mX4_make.2.2.1 mX4_make.2.2.2.1 mX4_make.2.2.2.2.1 ∈ mm_Ws := mm_wsC (List.mem_of_getElem? (i := 325) rfl) rfl
set_option maxRecDepth 100000 in
theorem cwX4_hearer : Cond.code mX4_hearer.2.1 mX4_hearer.2.2.1 mX4_hearer.2.2.2.1 mX4_hearer.2.2.2.2.1 ∈ mm_Ws := mm_wsC (List.mem_of_getElem? (i := 444) rfl) rfl
set_option maxRecDepth 100000 in
theorem cwX4_placeOf : Cond.code mX4_placeOf.2.1 mX4_placeOf.2.2.1 mX4_placeOf.2.2.2.1 mX4_placeOf.2.2.2.2.1 ∈ mm_Ws := mm_wsC (List.mem_of_getElem? (i := 457) rfl) rfl
set_option maxRecDepth 100000 in
theorem cwX4_put : Cond.code mX4_put.2.1 mX4_put.2.2.1 mX4_put.2.2.2.1 mX4_put.2.2.2.2.1 ∈ mm_Ws := mm_wsC (List.mem_of_getElem? (i := 461) rfl) rfl
set_option maxRecDepth 100000 in
theorem cwX4_out : Cond.code mX4_out.2.1 mX4_out.2.2.1 mX4_out.2.2.2.1 mX4_out.2.2.2.2.1 ∈ mm_Ws := mm_wsC (List.mem_of_getElem? (i := 469) rfl) rfl
set_option maxRecDepth 100000 in
theorem cwX4_bind : Cond.code mX4_bind.2.1 mX4_bind.2.2.1 mX4_bind.2.2.2.1 mX4_bind.2.2.2.2.1 ∈ mm_Ws := mm_wsC (List.mem_of_getElem? (i := 453) rfl) rfl
set_option maxRecDepth 100000 in
theorem cwX4_leave : Cond.code mX4_leave.2.1 mX4_leave.2.2.1 mX4_leave.2.2.2.1 mX4_leave.2.2.2.2.1 ∈ mm_Ws := mm_wsC (List.mem_of_getElem? (i := 465) rfl) rfl
set_option maxRecDepth 100000 in
theorem cwX4_take : Cond.code mX4_take.2.1 mX4_take.2.2.1 mX4_take.2.2.2.1 mX4_take.2.2.2.2.1 ∈ mm_Ws := mm_wsC (List.mem_of_getElem? (i := 473) rfl) rfl
set_option maxRecDepth 100000 in
theorem cwX4_lend : Cond.code mX4_lend.2.1 mX4_lend.2.2.1 mX4_lend.2.2.2.1 mX4_lend.2.2.2.2.1 ∈ mm_Ws := mm_wsC (List.mem_of_getElem? (i := 477) rfl) rfl
set_option maxRecDepth 100000 in
theorem cwX4_heap : Cond.code mX4_heap.2.1 mX4_heap.2.2.1 mX4_heap.2.2.2.1 mX4_heap.2.2.2.2.1 ∈ mm_Ws := mm_wsC (List.mem_of_getElem? (i := 493) rfl) rfl
set_option maxRecDepth 100000 in
theorem cwX4_rings : Cond.code mX4_rings.2.1 mX4_rings.2.2.1 mX4_rings.2.2.2.1 mX4_rings.2.2.2.2.1 ∈ mm_Ws := mm_wsC (List.mem_of_getElem? (i := 489) rfl) rfl
set_option maxRecDepth 100000 in
theorem cwX4_begins : Cond.code mX4_begins.2.1 mX4_begins.2.2.1 mX4_begins.2.2.2.1 mX4_begins.2.2.2.2.1 ∈ mm_Ws := mm_wsC (List.mem_of_getElem? (i := 521) rfl) rfl
set_option maxRecDepth 100000 in
theorem cwX4_does : Cond.code mX4_does.2.1 mX4_does.2.2.1 mX4_does.2.2.2.1 mX4_does.2.2.2.2.1 ∈ mm_Ws := mm_wsC (List.mem_of_getElem? (i := 513) rfl) rfl
set_option maxRecDepth 100000 in
theorem cwX4_doesOthers : Cond.code mX4_doesOthers.2.1 mX4_doesOthers.2.2.1 mX4_doesOthers.2.2.2.1 mX4_doesOthers.2.2.2.2.1 ∈ mm_Ws := mm_wsC (List.mem_of_getElem? (i := 517) rfl) rfl
set_option maxRecDepth 100000 in
theorem cwX4_fails : Cond.code mX4_fails.2.1 mX4_fails.2.2.1 mX4_fails.2.2.2.1 mX4_fails.2.2.2.2.1 ∈ mm_Ws := mm_wsC (List.mem_of_getElem? (i := 505) rfl) rfl
set_option maxRecDepth 100000 in
theorem cwX4_stop : Cond.code mX4_stop.2.1 mX4_stop.2.2.1 mX4_stop.2.2.2.1 mX4_stop.2.2.2.2.1 ∈ mm_Ws := mm_wsC (List.mem_of_getElem? (i := 509) rfl) rfl
set_option maxRecDepth 100000 in
theorem cwX4_goesOn : Cond.code mX4_goesOn.2.1 mX4_goesOn.2.2.1 mX4_goesOn.2.2.2.1 mX4_goesOn.2.2.2.2.1 ∈ mm_Ws := mm_wsC (List.mem_of_getElem? (i := 525) rfl) rfl
set_option maxRecDepth 100000 in
theorem cwX4_works : Cond.code mX4_works.2.1 mX4_works.2.2.1 mX4_works.2.2.2.1 mX4_works.2.2.2.2.1 ∈ mm_Ws := mm_wsC (List.mem_of_getElem? (i := 501) rfl) rfl
set_option maxRecDepth 100000 in
theorem cwX4_ready : Cond.code mX4_ready.2.1 mX4_ready.2.2.1 mX4_ready.2.2.2.1 mX4_ready.2.2.2.2.1 ∈ mm_Ws := mm_wsC (List.mem_of_getElem? (i := 485) rfl) rfl
set_option maxRecDepth 100000 in
theorem cwX4_all : Cond.code mX4_all.2.1 mX4_all.2.2.1 mX4_all.2.2.2.1 mX4_all.2.2.2.2.1 ∈ mm_Ws := mm_wsC (List.mem_of_getElem? (i := 497) rfl) rfl
set_option maxRecDepth 100000 in
theorem cwX4_ring : Cond.code mX4_ring.2.1 mX4_ring.2.2.1 mX4_ring.2.2.2.1 mX4_ring.2.2.2.2.1 ∈ mm_Ws := mm_wsC (List.mem_of_getElem? (i := 481) rfl) rfl
set_option maxRecDepth 100000 in
theorem cwX4_drain : Cond.code mX4_drain.2.1 mX4_drain.2.2.1 mX4_drain.2.2.2.1 mX4_drain.2.2.2.2.1 ∈ mm_Ws := mm_wsC (List.mem_of_getElem? (i := 529) rfl) rfl
set_option maxRecDepth 100000 in
theorem cwX4_act : Cond.code mX4_act.2.1 mX4_act.2.2.1 mX4_act.2.2.2.1 mX4_act.2.2.2.2.1 ∈ mm_Ws := mm_wsC (List.mem_of_getElem? (i := 533) rfl) rfl
set_option maxRecDepth 100000 in
theorem cwX4_get : Cond.code mX4_get.2.1 mX4_get.2.2.1 mX4_get.2.2.2.1 mX4_get.2.2.2.2.1 ∈ mm_Ws := mm_wsC (List.mem_of_getElem? (i := 537) rfl) rfl
set_option maxRecDepth 100000 in
theorem cwX4_line : Cond.code mX4_line.2.1 mX4_line.2.2.1 mX4_line.2.2.2.1 mX4_line.2.2.2.2.1 ∈ mm_Ws := mm_wsC (List.mem_of_getElem? (i := 541) rfl) rfl
set_option maxRecDepth 100000 in
theorem cwX4_queued : Cond.code mX4_queued.2.1 mX4_queued.2.2.1 mX4_queued.2.2.2.1 mX4_queued.2.2.2.2.1 ∈ mm_Ws := mm_wsC (List.mem_of_getElem? (i := 545) rfl) rfl
set_option maxRecDepth 100000 in
theorem cwX4_count : Cond.code mX4_count.2.1 mX4_count.2.2.1 mX4_count.2.2.2.1 mX4_count.2.2.2.2.1 ∈ mm_Ws := mm_wsC (List.mem_of_getElem? (i := 549) rfl) rfl
set_option maxRecDepth 100000 in
theorem cwX4_done : Cond.code mX4_done.2.1 mX4_done.2.2.1 mX4_done.2.2.2.1 mX4_done.2.2.2.2.1 ∈ mm_Ws := mm_wsC (List.mem_of_getElem? (i := 554) rfl) rfl
set_option maxRecDepth 100000 in
theorem mm_mthL_code : ∀ e ∈ mm_mthL, Cond.code e.2.2.2.2.1 e.2.2.2.2.2.1 e.2.2.2.2.2.2.1 e.2.2.2.2.2.2.2.1 ∈ mm_Ws := List.forall_mem_cons.mpr ⟨cwX3_init, List.forall_mem_cons.mpr ⟨cwX3_makeHearer, List.forall_mem_cons.mpr ⟨cwX0_init, List.forall_mem_cons.mpr ⟨cwX3_tally, List.forall_mem_cons.mpr ⟨cwX3_isTally, List.forall_mem_cons.mpr ⟨cwX3_way, List.forall_mem_cons.mpr ⟨cwX3_isBell, List.forall_mem_cons.mpr ⟨cwX3_hearer, List.forall_mem_cons.mpr ⟨cwX3_canBeMade, List.forall_mem_cons.mpr ⟨cwX3_isHearer, List.forall_mem_cons.mpr ⟨cwX3_bind, List.forall_mem_cons.mpr ⟨cwX1_append, List.forall_mem_cons.mpr ⟨cwX1_placeOf, List.forall_mem_cons.mpr ⟨cwX3_leave, List.forall_mem_cons.mpr ⟨cwX1_remove, List.forall_mem_cons.mpr ⟨cwX3_take, List.forall_mem_cons.mpr ⟨cwX3_lend, List.forall_mem_cons.mpr ⟨cwX3_ring, List.forall_mem_cons.mpr ⟨cwX3_ringBell, List.forall_mem_cons.mpr ⟨cwX1_copyLine, List.forall_mem_cons.mpr ⟨cwX1_placeOf, List.forall_mem_cons.mpr ⟨cwX3_perform, List.forall_mem_cons.mpr ⟨cwX3_metByTry, List.forall_mem_cons.mpr ⟨cwX3_canBeMet, List.forall_mem_cons.mpr ⟨cwX3_performAlone, List.forall_mem_cons.mpr ⟨cwX3_shareTally, List.forall_mem_cons.mpr ⟨cwX3_addAtPlace, List.forall_mem_cons.mpr ⟨cwX2_append, List.forall_mem_cons.mpr ⟨cwX3_removeFromAllLines, List.forall_mem_cons.mpr ⟨cwX3_metByBell, List.forall_mem_cons.mpr ⟨cwX3_wellIfStopped, List.forall_mem_cons.mpr ⟨cwX3_ringQueueAfter, List.forall_mem_cons.mpr ⟨cwX2_firstBell, List.forall_mem_cons.mpr ⟨cwX2_firstValue, List.forall_mem_cons.mpr ⟨cwX2_dropFirst, List.forall_mem_cons.mpr ⟨cwX3_answerOfCall, List.forall_mem_cons.mpr ⟨cwX3_drain, List.forall_mem_cons.mpr ⟨cwX3_act, List.forall_mem_cons.mpr ⟨cwX3_get, List.forall_mem_cons.mpr ⟨cwX3_line, List.forall_mem_cons.mpr ⟨cwX1_hearerAt, List.forall_mem_cons.mpr ⟨cwX3_queued, List.forall_mem_cons.mpr ⟨cwX2_bellAt, List.forall_mem_cons.mpr ⟨cwX3_count, List.forall_mem_cons.mpr ⟨cwX3_done, List.forall_mem_cons.mpr ⟨cwX4_init, List.forall_mem_cons.mpr ⟨cwX4_make, List.forall_mem_cons.mpr ⟨cwX4_in, List.forall_mem_cons.mpr ⟨cwX4_tally, List.forall_mem_cons.mpr ⟨cwX4_isTally, List.forall_mem_cons.mpr ⟨cwX4_way, List.forall_mem_cons.mpr ⟨cwX4_isBell, List.forall_mem_cons.mpr ⟨cwX4_hearer, List.forall_mem_cons.mpr ⟨cwX4_isHearer, List.forall_mem_cons.mpr ⟨cwX4_bind, List.forall_mem_cons.mpr ⟨cwX4_placeOf, List.forall_mem_cons.mpr ⟨cwX4_put, List.forall_mem_cons.mpr ⟨cwX4_leave, List.forall_mem_cons.mpr ⟨cwX4_out, List.forall_mem_cons.mpr ⟨cwX4_take, List.forall_mem_cons.mpr ⟨cwX4_lend, List.forall_mem_cons.mpr ⟨cwX4_ring, List.forall_mem_cons.mpr ⟨cwX4_ready, List.forall_mem_cons.mpr ⟨cwX4_rings, List.forall_mem_cons.mpr ⟨cwX4_heap, List.forall_mem_cons.mpr ⟨cwX4_all, List.forall_mem_cons.mpr ⟨cwX4_works, List.forall_mem_cons.mpr ⟨cwX4_fails, List.forall_mem_cons.mpr ⟨cwX4_stop, List.forall_mem_cons.mpr ⟨cwX4_does, List.forall_mem_cons.mpr ⟨cwX4_doesOthers, List.forall_mem_cons.mpr ⟨cwX4_begins, List.forall_mem_cons.mpr ⟨cwX4_goesOn, List.forall_mem_cons.mpr ⟨cwX4_drain, List.forall_mem_cons.mpr ⟨cwX4_act, List.forall_mem_cons.mpr ⟨cwX4_get, List.forall_mem_cons.mpr ⟨cwX4_line, List.forall_mem_cons.mpr ⟨cwX4_queued, List.forall_mem_cons.mpr ⟨cwX4_count, List.forall_mem_cons.mpr ⟨cwX4_done, List.forall_mem_cons.mpr ⟨cwX2_init, List.forall_mem_cons.mpr ⟨cwX1_init, fun _ h => absurd h List.not_mem_nil⟩⟩⟩⟩⟩⟩⟩⟩⟩⟩⟩⟩⟩⟩⟩⟩⟩⟩⟩⟩⟩⟩⟩⟩⟩⟩⟩⟩⟩⟩⟩⟩⟩⟩⟩⟩⟩⟩⟩⟩⟩⟩⟩⟩⟩⟩⟩⟩⟩⟩⟩⟩⟩⟩⟩⟩⟩⟩⟩⟩⟩⟩⟩⟩⟩⟩⟩⟩⟩⟩⟩⟩⟩⟩⟩⟩⟩⟩⟩⟩⟩⟩
