theorem qq_1 : (Cond.initialized "ChangeCodec") ∈ gw := gw_at 1 (by decide +kernel) rfl
theorem qq_2 : (Cond.initialized "ChangeCodec$Bytes") ∈ gw := gw_at 2 (by decide +kernel) rfl
theorem qq_3 : (Cond.initialized "ChangeCodec$Reader") ∈ gw := gw_at 3 (by decide +kernel) rfl
theorem qq_4 : (Cond.initialized "ChangeCodec$Change") ∈ gw := gw_at 4 (by decide +kernel) rfl
theorem qq_5 : (Cond.initialized "ChangeCodecModel") ∈ gw := gw_at 5 (by decide +kernel) rfl
theorem qq_17 : (Cond.classLink "ChangeCodecLaw" 8 "ChangeCodec") ∈ gw := gw_at 17 (by decide +kernel) rfl
theorem qq_18 : (Cond.instantiable "ChangeCodec" 8) ∈ gw := gw_at 18 (by decide +kernel) rfl
theorem qq_19 : (Cond.methodLink "ChangeCodecLaw" 40 ⟨"ChangeCodec", "<init>", "()V"⟩) ∈ gw := gw_at 19 (by decide +kernel) rfl
theorem qq_20 : (Cond.instanceMethod ⟨"ChangeCodec", "<init>", "()V"⟩) ∈ gw := gw_at 20 (by decide +kernel) rfl
set_option maxRecDepth 100000 in
theorem qq_21 : (Cond.code ⟨"ChangeCodec", "<init>", "()V"⟩ prog_1_method_1_code 1 (Option.none : Option FieldType)) ∈ gw := gw_at 21 rfl rfl
theorem qq_22 : (Cond.methodLink "ChangeCodec" 1 ⟨"java/lang/Object", "<init>", "()V"⟩) ∈ gw := gw_at 22 (by decide +kernel) rfl
theorem qq_23 : (Cond.instanceMethod ⟨"java/lang/Object", "<init>", "()V"⟩) ∈ gw := gw_at 23 (by decide +kernel) rfl
set_option maxRecDepth 100000 in
theorem qq_24 : (Cond.code ⟨"java/lang/Object", "<init>", "()V"⟩ object_method_1_code 1 (Option.none : Option FieldType)) ∈ gw := gw_at 24 rfl rfl
theorem qq_25 : (Cond.classLink "ChangeCodec" 7 "ChangeCodec$Bytes") ∈ gw := gw_at 25 (by decide +kernel) rfl
theorem qq_26 : (Cond.instantiable "ChangeCodec$Bytes" 2) ∈ gw := gw_at 26 (by decide +kernel) rfl
theorem qq_27 : (Cond.methodLink "ChangeCodec" 11 ⟨"ChangeCodec$Bytes", "<init>", "(I)V"⟩) ∈ gw := gw_at 27 (by decide +kernel) rfl
theorem qq_28 : (Cond.instanceMethod ⟨"ChangeCodec$Bytes", "<init>", "(I)V"⟩) ∈ gw := gw_at 28 (by decide +kernel) rfl
set_option maxRecDepth 100000 in
theorem qq_29 : (Cond.code ⟨"ChangeCodec$Bytes", "<init>", "(I)V"⟩ prog_2_method_1_code 2 (Option.none : Option FieldType)) ∈ gw := gw_at 29 rfl rfl
theorem qq_30 : (Cond.methodLink "ChangeCodec$Bytes" 3 ⟨"java/lang/Object", "<init>", "()V"⟩) ∈ gw := gw_at 30 (by decide +kernel) rfl
theorem qq_31 : (Cond.fieldLink "ChangeCodec$Bytes" 9 "ChangeCodec$Bytes" "cells" "[B") ∈ gw := gw_at 31 (by decide +kernel) rfl
theorem qq_33 : (Cond.fieldLink "ChangeCodec$Bytes" 15 "ChangeCodec$Bytes" "used" "I") ∈ gw := gw_at 33 (by decide +kernel) rfl
theorem qq_41 : (Cond.arrayClass FieldType.byte) ∈ gw := gw_at 41 (by decide +kernel) rfl
theorem qq_42 : (Cond.classLink "ChangeCodec" 18 "ChangeCodec$Reader") ∈ gw := gw_at 42 (by decide +kernel) rfl
theorem qq_43 : (Cond.instantiable "ChangeCodec$Reader" 5) ∈ gw := gw_at 43 (by decide +kernel) rfl
theorem qq_44 : (Cond.methodLink "ChangeCodec" 20 ⟨"ChangeCodec$Reader", "<init>", "()V"⟩) ∈ gw := gw_at 44 (by decide +kernel) rfl
theorem qq_45 : (Cond.instanceMethod ⟨"ChangeCodec$Reader", "<init>", "()V"⟩) ∈ gw := gw_at 45 (by decide +kernel) rfl
set_option maxRecDepth 100000 in
theorem qq_46 : (Cond.code ⟨"ChangeCodec$Reader", "<init>", "()V"⟩ prog_4_method_1_code 1 (Option.none : Option FieldType)) ∈ gw := gw_at 46 rfl rfl
theorem qq_47 : (Cond.methodLink "ChangeCodec$Reader" 3 ⟨"java/lang/Object", "<init>", "()V"⟩) ∈ gw := gw_at 47 (by decide +kernel) rfl
theorem qq_48 : (Cond.classLink "ChangeCodec$Reader" 9 "ChangeCodec$Bytes") ∈ gw := gw_at 48 (by decide +kernel) rfl
theorem qq_49 : (Cond.methodLink "ChangeCodec$Reader" 11 ⟨"ChangeCodec$Bytes", "<init>", "(I)V"⟩) ∈ gw := gw_at 49 (by decide +kernel) rfl
theorem qq_50 : (Cond.fieldLink "ChangeCodec$Reader" 14 "ChangeCodec$Reader" "source" "LChangeCodec$Bytes;") ∈ gw := gw_at 50 (by decide +kernel) rfl
theorem qq_51 : (Cond.fieldLink "ChangeCodec" 25 "ChangeCodec$Reader" "source" "LChangeCodec$Bytes;") ∈ gw := gw_at 51 (by decide +kernel) rfl
theorem qq_52 : (Cond.fieldLink "ChangeCodec$Reader" 20 "ChangeCodec$Reader" "here" "I") ∈ gw := gw_at 52 (by decide +kernel) rfl
theorem qq_54 : (Cond.fieldLink "ChangeCodec$Reader" 24 "ChangeCodec$Reader" "end" "I") ∈ gw := gw_at 54 (by decide +kernel) rfl
theorem qq_55 : (Cond.fieldLink "ChangeCodec$Reader" 27 "ChangeCodec$Reader" "fault" "I") ∈ gw := gw_at 55 (by decide +kernel) rfl
theorem qq_57 : (Cond.fieldLink "ChangeCodec$Reader" 30 "ChangeCodec$Reader" "place" "I") ∈ gw := gw_at 57 (by decide +kernel) rfl
theorem qq_70 : (Cond.classLink "ChangeCodec" 34 "ChangeCodec$Change") ∈ gw := gw_at 70 (by decide +kernel) rfl
theorem qq_71 : (Cond.instantiable "ChangeCodec$Change" 10) ∈ gw := gw_at 71 (by decide +kernel) rfl
theorem qq_72 : (Cond.methodLink "ChangeCodec" 36 ⟨"ChangeCodec$Change", "<init>", "()V"⟩) ∈ gw := gw_at 72 (by decide +kernel) rfl
theorem qq_73 : (Cond.instanceMethod ⟨"ChangeCodec$Change", "<init>", "()V"⟩) ∈ gw := gw_at 73 (by decide +kernel) rfl
set_option maxRecDepth 100000 in
theorem qq_74 : (Cond.code ⟨"ChangeCodec$Change", "<init>", "()V"⟩ prog_3_method_1_code 1 (Option.none : Option FieldType)) ∈ gw := gw_at 74 rfl rfl
theorem qq_75 : (Cond.methodLink "ChangeCodec$Change" 3 ⟨"java/lang/Object", "<init>", "()V"⟩) ∈ gw := gw_at 75 (by decide +kernel) rfl
theorem qq_86 : (Cond.fieldLink "ChangeCodec$Change" 9 "ChangeCodec$Change" "clock" "[I") ∈ gw := gw_at 86 (by decide +kernel) rfl
theorem qq_89 : (Cond.fieldLink "ChangeCodec$Change" 15 "ChangeCodec$Change" "types" "[I") ∈ gw := gw_at 89 (by decide +kernel) rfl
theorem qq_91 : (Cond.fieldLink "ChangeCodec$Change" 18 "ChangeCodec$Change" "objects" "[I") ∈ gw := gw_at 91 (by decide +kernel) rfl
theorem qq_93 : (Cond.fieldLink "ChangeCodec$Change" 21 "ChangeCodec$Change" "keys" "[J") ∈ gw := gw_at 93 (by decide +kernel) rfl
theorem qq_95 : (Cond.fieldLink "ChangeCodec$Change" 25 "ChangeCodec$Change" "kinds" "[I") ∈ gw := gw_at 95 (by decide +kernel) rfl
theorem qq_97 : (Cond.fieldLink "ChangeCodec$Change" 28 "ChangeCodec$Change" "values" "[I") ∈ gw := gw_at 97 (by decide +kernel) rfl
theorem qq_120 : (Cond.arrayClass FieldType.int) ∈ gw := gw_at 120 (by decide +kernel) rfl
theorem qq_121 : (Cond.arrayClass FieldType.long) ∈ gw := gw_at 121 (by decide +kernel) rfl
theorem qq_122 : (Cond.fieldLink "ChangeCodec" 14 "ChangeCodec" "written" "LChangeCodec$Bytes;") ∈ gw := gw_at 122 (by decide +kernel) rfl
theorem qq_123 : (Cond.fieldLink "ChangeCodec" 28 "ChangeCodec" "given" "LChangeCodec$Bytes;") ∈ gw := gw_at 123 (by decide +kernel) rfl
theorem qq_124 : (Cond.fieldLink "ChangeCodec" 31 "ChangeCodec" "body" "LChangeCodec$Bytes;") ∈ gw := gw_at 124 (by decide +kernel) rfl
theorem qq_125 : (Cond.fieldLink "ChangeCodec" 21 "ChangeCodec" "reader" "LChangeCodec$Reader;") ∈ gw := gw_at 125 (by decide +kernel) rfl
theorem qq_126 : (Cond.fieldLink "ChangeCodec" 37 "ChangeCodec" "change" "LChangeCodec$Change;") ∈ gw := gw_at 126 (by decide +kernel) rfl
theorem qq_127 : (Cond.fieldLink "ChangeCodec" 41 "ChangeCodec" "draft" "LChangeCodec$Change;") ∈ gw := gw_at 127 (by decide +kernel) rfl
theorem qq_128 : (Cond.fieldLink "ChangeCodec" 44 "ChangeCodec" "begun" "Z") ∈ gw := gw_at 128 (by decide +kernel) rfl
theorem qq_129 : (Cond.fieldLink "ChangeCodec" 48 "ChangeCodec" "at" "I") ∈ gw := gw_at 129 (by decide +kernel) rfl
theorem qq_573 : (Cond.classLink "ChangeCodecLaw" 41 "ChangeCodecModel") ∈ gw := gw_at 573 (by decide +kernel) rfl
theorem qq_574 : (Cond.instantiable "ChangeCodecModel" 33) ∈ gw := gw_at 574 (by decide +kernel) rfl
theorem qq_575 : (Cond.methodLink "ChangeCodecLaw" 43 ⟨"ChangeCodecModel", "<init>", "()V"⟩) ∈ gw := gw_at 575 (by decide +kernel) rfl
theorem qq_576 : (Cond.instanceMethod ⟨"ChangeCodecModel", "<init>", "()V"⟩) ∈ gw := gw_at 576 (by decide +kernel) rfl
set_option maxRecDepth 100000 in
theorem qq_577 : (Cond.code ⟨"ChangeCodecModel", "<init>", "()V"⟩ prog_7_method_1_code 1 (Option.none : Option FieldType)) ∈ gw := gw_at 577 rfl rfl
theorem qq_578 : (Cond.methodLink "ChangeCodecModel" 1 ⟨"java/lang/Object", "<init>", "()V"⟩) ∈ gw := gw_at 578 (by decide +kernel) rfl
theorem qq_579 : (Cond.fieldLink "ChangeCodecModel" 61 "ChangeCodecModel" "thrown" "I") ∈ gw := gw_at 579 (by decide +kernel) rfl
theorem qq_580 : (Cond.fieldLink "ChangeCodecModel" 95 "ChangeCodecModel" "there" "Z") ∈ gw := gw_at 580 (by decide +kernel) rfl
theorem qq_581 : (Cond.fieldLink "ChangeCodecModel" 87 "ChangeCodecModel" "actor" "I") ∈ gw := gw_at 581 (by decide +kernel) rfl
theorem qq_582 : (Cond.fieldLink "ChangeCodecModel" 99 "ChangeCodecModel" "seq" "I") ∈ gw := gw_at 582 (by decide +kernel) rfl
theorem qq_583 : (Cond.fieldLink "ChangeCodecModel" 84 "ChangeCodecModel" "counter" "I") ∈ gw := gw_at 583 (by decide +kernel) rfl
theorem qq_584 : (Cond.fieldLink "ChangeCodecModel" 7 "ChangeCodecModel" "clock" "[I") ∈ gw := gw_at 584 (by decide +kernel) rfl
theorem qq_585 : (Cond.fieldLink "ChangeCodecModel" 102 "ChangeCodecModel" "many" "I") ∈ gw := gw_at 585 (by decide +kernel) rfl
theorem qq_586 : (Cond.fieldLink "ChangeCodecModel" 13 "ChangeCodecModel" "types" "[I") ∈ gw := gw_at 586 (by decide +kernel) rfl
theorem qq_587 : (Cond.fieldLink "ChangeCodecModel" 16 "ChangeCodecModel" "objects" "[I") ∈ gw := gw_at 587 (by decide +kernel) rfl
theorem qq_588 : (Cond.fieldLink "ChangeCodecModel" 19 "ChangeCodecModel" "keys" "[J") ∈ gw := gw_at 588 (by decide +kernel) rfl
theorem qq_589 : (Cond.fieldLink "ChangeCodecModel" 23 "ChangeCodecModel" "kinds" "[I") ∈ gw := gw_at 589 (by decide +kernel) rfl
theorem qq_590 : (Cond.fieldLink "ChangeCodecModel" 26 "ChangeCodecModel" "values" "[I") ∈ gw := gw_at 590 (by decide +kernel) rfl
theorem qq_594 : (Cond.fieldLink "ChangeCodecModel" 29 "ChangeCodecModel" "newClock" "[I") ∈ gw := gw_at 594 (by decide +kernel) rfl
theorem qq_596 : (Cond.fieldLink "ChangeCodecModel" 32 "ChangeCodecModel" "newTypes" "[I") ∈ gw := gw_at 596 (by decide +kernel) rfl
theorem qq_597 : (Cond.fieldLink "ChangeCodecModel" 35 "ChangeCodecModel" "newObjects" "[I") ∈ gw := gw_at 597 (by decide +kernel) rfl
theorem qq_598 : (Cond.fieldLink "ChangeCodecModel" 38 "ChangeCodecModel" "newKeys" "[J") ∈ gw := gw_at 598 (by decide +kernel) rfl
theorem qq_599 : (Cond.fieldLink "ChangeCodecModel" 41 "ChangeCodecModel" "newKinds" "[I") ∈ gw := gw_at 599 (by decide +kernel) rfl
theorem qq_600 : (Cond.fieldLink "ChangeCodecModel" 44 "ChangeCodecModel" "newValues" "[I") ∈ gw := gw_at 600 (by decide +kernel) rfl
theorem qq_601 : (Cond.fieldLink "ChangeCodecModel" 47 "ChangeCodecModel" "output" "[B") ∈ gw := gw_at 601 (by decide +kernel) rfl
theorem qq_602 : (Cond.fieldLink "ChangeCodecModel" 149 "ChangeCodecModel" "outputs" "I") ∈ gw := gw_at 602 (by decide +kernel) rfl
theorem qq_603 : (Cond.fieldLink "ChangeCodecModel" 51 "ChangeCodecModel" "input" "[B") ∈ gw := gw_at 603 (by decide +kernel) rfl
theorem qq_604 : (Cond.fieldLink "ChangeCodecModel" 156 "ChangeCodecModel" "inputs" "I") ∈ gw := gw_at 604 (by decide +kernel) rfl
theorem qq_605 : (Cond.fieldLink "ChangeCodecModel" 159 "ChangeCodecModel" "at" "I") ∈ gw := gw_at 605 (by decide +kernel) rfl
theorem qq_606 : (Cond.fieldLink "ChangeCodecModel" 162 "ChangeCodecModel" "fault" "I") ∈ gw := gw_at 606 (by decide +kernel) rfl
theorem qq_607 : (Cond.fieldLink "ChangeCodecModel" 54 "ChangeCodecModel" "place" "I") ∈ gw := gw_at 607 (by decide +kernel) rfl
theorem qq_608 : (Cond.fieldLink "ChangeCodecModel" 58 "ChangeCodecModel" "body" "[B") ∈ gw := gw_at 608 (by decide +kernel) rfl
theorem qq_609 : (Cond.fieldLink "ChangeCodecModel" 113 "ChangeCodecModel" "length" "I") ∈ gw := gw_at 609 (by decide +kernel) rfl
theorem qq_687 : (Cond.methodLink "ChangeCodecModel" 90 ⟨"ChangeCodecModel", "isActor", "(I)Z"⟩) ∈ gw := gw_at 687 (by decide +kernel) rfl
theorem qq_688 : (Cond.static ⟨"ChangeCodecModel", "isActor", "(I)Z"⟩) ∈ gw := gw_at 688 (by decide +kernel) rfl
set_option maxRecDepth 100000 in
theorem qq_689 : (Cond.code ⟨"ChangeCodecModel", "isActor", "(I)Z"⟩ prog_7_method_3_code 1 (Option.some FieldType.boolean)) ∈ gw := gw_at 689 rfl rfl
theorem qq_690 : (Cond.constant "ChangeCodecModel" 94 (100000 : Int32)) ∈ gw := gw_at 690 (by decide +kernel) rfl
theorem qq_699 : (Cond.methodLink "ChangeCodecModel" 105 ⟨"ChangeCodecModel", "idOf", "(I)I"⟩) ∈ gw := gw_at 699 (by decide +kernel) rfl
theorem qq_701 : (Cond.instanceMethod ⟨"ChangeCodecModel", "idOf", "(I)I"⟩) ∈ gw := gw_at 701 (by decide +kernel) rfl
set_option maxRecDepth 100000 in
theorem qq_702 : (Cond.code ⟨"ChangeCodecModel", "idOf", "(I)I"⟩ prog_7_method_8_code 2 (Option.some FieldType.int)) ∈ gw := gw_at 702 rfl rfl
theorem qq_709 : (Cond.constantLong "ChangeCodecModel" 64 (8 : Int64)) ∈ gw := gw_at 709 (by decide +kernel) rfl
theorem qq_710 : (Cond.constantLong "ChangeCodecModel" 66 (800007 : Int64)) ∈ gw := gw_at 710 (by decide +kernel) rfl
theorem qq_711 : (Cond.methodLink "ChangeCodecModel" 72 ⟨"ChangeCodecModel", "letters", "(J)I"⟩) ∈ gw := gw_at 711 (by decide +kernel) rfl
theorem qq_712 : (Cond.static ⟨"ChangeCodecModel", "letters", "(J)I"⟩) ∈ gw := gw_at 712 (by decide +kernel) rfl
set_option maxRecDepth 100000 in
theorem qq_713 : (Cond.code ⟨"ChangeCodecModel", "letters", "(J)I"⟩ prog_7_method_5_code 7 (Option.some FieldType.int)) ∈ gw := gw_at 713 rfl rfl
theorem qq_714 : (Cond.constantLong "ChangeCodecModel" 68 (255 : Int64)) ∈ gw := gw_at 714 (by decide +kernel) rfl
theorem qq_718 : (Cond.constantLong "ChangeCodecModel" 70 (4294967295 : Int64)) ∈ gw := gw_at 718 (by decide +kernel) rfl
theorem qq_727 : (Cond.methodLink "ChangeCodecModel" 138 ⟨"ChangeCodecModel", "isWhole", "()Z"⟩) ∈ gw := gw_at 727 (by decide +kernel) rfl
theorem qq_729 : (Cond.instanceMethod ⟨"ChangeCodecModel", "isWhole", "()Z"⟩) ∈ gw := gw_at 729 (by decide +kernel) rfl
set_option maxRecDepth 100000 in
theorem qq_730 : (Cond.code ⟨"ChangeCodecModel", "isWhole", "()Z"⟩ prog_7_method_21_code 1 (Option.some FieldType.boolean)) ∈ gw := gw_at 730 rfl rfl
theorem qq_731 : (Cond.methodLink "ChangeCodecModel" 142 ⟨"ChangeCodecModel", "layBody", "()V"⟩) ∈ gw := gw_at 731 (by decide +kernel) rfl
theorem qq_733 : (Cond.instanceMethod ⟨"ChangeCodecModel", "layBody", "()V"⟩) ∈ gw := gw_at 733 (by decide +kernel) rfl
set_option maxRecDepth 100000 in
theorem qq_734 : (Cond.code ⟨"ChangeCodecModel", "layBody", "()V"⟩ prog_7_method_19_code 3 (Option.none : Option FieldType)) ∈ gw := gw_at 734 rfl rfl
theorem qq_735 : (Cond.methodLink "ChangeCodecModel" 116 ⟨"ChangeCodecModel", "lay", "(I)V"⟩) ∈ gw := gw_at 735 (by decide +kernel) rfl
theorem qq_737 : (Cond.instanceMethod ⟨"ChangeCodecModel", "lay", "(I)V"⟩) ∈ gw := gw_at 737 (by decide +kernel) rfl
set_option maxRecDepth 100000 in
theorem qq_738 : (Cond.code ⟨"ChangeCodecModel", "lay", "(I)V"⟩ prog_7_method_13_code 2 (Option.none : Option FieldType)) ∈ gw := gw_at 738 rfl rfl
theorem qq_739 : (Cond.methodLink "ChangeCodecModel" 120 ⟨"ChangeCodecModel", "layU", "(I)V"⟩) ∈ gw := gw_at 739 (by decide +kernel) rfl
theorem qq_741 : (Cond.instanceMethod ⟨"ChangeCodecModel", "layU", "(I)V"⟩) ∈ gw := gw_at 741 (by decide +kernel) rfl
set_option maxRecDepth 100000 in
theorem qq_742 : (Cond.code ⟨"ChangeCodecModel", "layU", "(I)V"⟩ prog_7_method_14_code 3 (Option.none : Option FieldType)) ∈ gw := gw_at 742 rfl rfl
theorem qq_743 : (Cond.methodLink "ChangeCodecModel" 134 ⟨"ChangeCodecModel", "layOperation", "(I)V"⟩) ∈ gw := gw_at 743 (by decide +kernel) rfl
theorem qq_745 : (Cond.instanceMethod ⟨"ChangeCodecModel", "layOperation", "(I)V"⟩) ∈ gw := gw_at 745 (by decide +kernel) rfl
set_option maxRecDepth 100000 in
theorem qq_746 : (Cond.code ⟨"ChangeCodecModel", "layOperation", "(I)V"⟩ prog_7_method_18_code 3 (Option.none : Option FieldType)) ∈ gw := gw_at 746 rfl rfl
theorem qq_747 : (Cond.methodLink "ChangeCodecModel" 123 ⟨"ChangeCodecModel", "layRef", "(II)V"⟩) ∈ gw := gw_at 747 (by decide +kernel) rfl
theorem qq_749 : (Cond.instanceMethod ⟨"ChangeCodecModel", "layRef", "(II)V"⟩) ∈ gw := gw_at 749 (by decide +kernel) rfl
set_option maxRecDepth 100000 in
theorem qq_750 : (Cond.code ⟨"ChangeCodecModel", "layRef", "(II)V"⟩ prog_7_method_17_code 3 (Option.none : Option FieldType)) ∈ gw := gw_at 750 rfl rfl
theorem qq_751 : (Cond.methodLink "ChangeCodecModel" 127 ⟨"ChangeCodecModel", "layLetters", "(J)V"⟩) ∈ gw := gw_at 751 (by decide +kernel) rfl
theorem qq_753 : (Cond.instanceMethod ⟨"ChangeCodecModel", "layLetters", "(J)V"⟩) ∈ gw := gw_at 753 (by decide +kernel) rfl
set_option maxRecDepth 100000 in
theorem qq_754 : (Cond.code ⟨"ChangeCodecModel", "layLetters", "(J)V"⟩ prog_7_method_16_code 5 (Option.none : Option FieldType)) ∈ gw := gw_at 754 rfl rfl
theorem qq_755 : (Cond.methodLink "ChangeCodecModel" 131 ⟨"ChangeCodecModel", "layS", "(I)V"⟩) ∈ gw := gw_at 755 (by decide +kernel) rfl
theorem qq_757 : (Cond.instanceMethod ⟨"ChangeCodecModel", "layS", "(I)V"⟩) ∈ gw := gw_at 757 (by decide +kernel) rfl
set_option maxRecDepth 100000 in
theorem qq_758 : (Cond.code ⟨"ChangeCodecModel", "layS", "(I)V"⟩ prog_7_method_15_code 3 (Option.none : Option FieldType)) ∈ gw := gw_at 758 rfl rfl
theorem qq_759 : (Cond.methodLink "ChangeCodecModel" 145 ⟨"ChangeCodecModel", "ahead", "()I"⟩) ∈ gw := gw_at 759 (by decide +kernel) rfl
theorem qq_761 : (Cond.instanceMethod ⟨"ChangeCodecModel", "ahead", "()I"⟩) ∈ gw := gw_at 761 (by decide +kernel) rfl
set_option maxRecDepth 100000 in
theorem qq_762 : (Cond.code ⟨"ChangeCodecModel", "ahead", "()I"⟩ prog_7_method_22_code 1 (Option.some FieldType.int)) ∈ gw := gw_at 762 rfl rfl
theorem qq_770 : (Cond.constant "ChangeCodecModel" 137 (-306674912 : Int32)) ∈ gw := gw_at 770 (by decide +kernel) rfl
theorem qq_845 : (Cond.methodLink "ChangeCodecModel" 224 ⟨"ChangeCodecModel", "isIn", "(I)Z"⟩) ∈ gw := gw_at 845 (by decide +kernel) rfl
theorem qq_847 : (Cond.instanceMethod ⟨"ChangeCodecModel", "isIn", "(I)Z"⟩) ∈ gw := gw_at 847 (by decide +kernel) rfl
set_option maxRecDepth 100000 in
theorem qq_848 : (Cond.code ⟨"ChangeCodecModel", "isIn", "(I)Z"⟩ prog_7_method_42_code 2 (Option.some FieldType.boolean)) ∈ gw := gw_at 848 rfl rfl
theorem qs_M_ahead : Cond.selects "ChangeCodecModel" yy_M_ahead yy_M_ahead ∈ gw := gw_sel (y := yy_M_ahead) (n := 33) 29 (by decide +kernel)
theorem qs_M_idOf : Cond.selects "ChangeCodecModel" yy_M_idOf yy_M_idOf ∈ gw := gw_sel (y := yy_M_idOf) (n := 33) 20 (by decide +kernel)
theorem qs_M_isIn : Cond.selects "ChangeCodecModel" yy_M_isIn yy_M_isIn ∈ gw := gw_sel (y := yy_M_isIn) (n := 33) 41 (by decide +kernel)
theorem qs_M_isWhole : Cond.selects "ChangeCodecModel" yy_M_isWhole yy_M_isWhole ∈ gw := gw_sel (y := yy_M_isWhole) (n := 33) 21 (by decide +kernel)
theorem qs_M_lay : Cond.selects "ChangeCodecModel" yy_M_lay yy_M_lay ∈ gw := gw_sel (y := yy_M_lay) (n := 33) 23 (by decide +kernel)
theorem qs_M_layBody : Cond.selects "ChangeCodecModel" yy_M_layBody yy_M_layBody ∈ gw := gw_sel (y := yy_M_layBody) (n := 33) 22 (by decide +kernel)
theorem qs_M_layLetters : Cond.selects "ChangeCodecModel" yy_M_layLetters yy_M_layLetters ∈ gw := gw_sel (y := yy_M_layLetters) (n := 33) 27 (by decide +kernel)
theorem qs_M_layOperation : Cond.selects "ChangeCodecModel" yy_M_layOperation yy_M_layOperation ∈ gw := gw_sel (y := yy_M_layOperation) (n := 33) 25 (by decide +kernel)
theorem qs_M_layRef : Cond.selects "ChangeCodecModel" yy_M_layRef yy_M_layRef ∈ gw := gw_sel (y := yy_M_layRef) (n := 33) 26 (by decide +kernel)
theorem qs_M_layS : Cond.selects "ChangeCodecModel" yy_M_layS yy_M_layS ∈ gw := gw_sel (y := yy_M_layS) (n := 33) 28 (by decide +kernel)
theorem qs_M_layU : Cond.selects "ChangeCodecModel" yy_M_layU yy_M_layU ∈ gw := gw_sel (y := yy_M_layU) (n := 33) 24 (by decide +kernel)
