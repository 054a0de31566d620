/** Tests of single sentences: boundaries, segments, looks and work (promises 17 to 25). */
final class SentencesOnBoundaries {
    private static final int LOW = Integer.MIN_VALUE;
    private static final int HIGH = Integer.MAX_VALUE;
    private static final int[] BAD_POSITIONS = {-1, SentencesOnRules.BUSY_LENGTH + 1, 100, LOW, HIGH};
    private static final int[] ANY_POSITIONS = {0, -1, SentencesOnRules.BUSY_LENGTH + 1};

    private SentencesOnBoundaries() {}

    // ---- promise 17

    static void promise17AllKinds(Sentence t) {
        t.says("kind: 0 to 2");
        BoundaryAnalyzer x = threeKinds();
        t.same("boundaries of kind 0", Make.states(x, 0), "1111111");
        t.same("boundaries of kind 1", Make.states(x, 1), "1010101");
        t.same("boundaries of kind 2", Make.states(x, 2), "1001001");
    }

    static void promise17TheFirstAndLastPosition(Sentence t) {
        t.says("position: 0 to the length of the text");
        BoundaryAnalyzer x = Make.ruled(Make.with("a".repeat(100)), 1, 0, "A+");
        t.answer("boundaryAt(1, 0)", x.boundaryAt(1, 0), 1);
        t.answer("boundaryAt(1, 99)", x.boundaryAt(1, 99), 0);
        t.answer("boundaryAt(1, 100), the length", x.boundaryAt(1, 100), 1);
    }

    static void promise17TheEmptyText(Sentence t) {
        t.says("position: 0 to the length of the text");
        for (int kind = 0; kind < 3; kind++) {
            int of = kind;
            t.answer("boundaryAt(" + kind + ", 0)", Make.fresh().boundaryAt(kind, 0), 1);
            t.unchanged("boundaryAt(" + kind + ", 1)", -1, x -> x.value(0), x -> x.boundaryAt(of, 1));
        }
    }

    static void promise17EachOfTheStates(Sentence t) {
        t.says("Returns 1 if there is a boundary of this kind, 2 if there is a suppressed raw boundary, otherwise 0");
        BoundaryAnalyzer x = doctor();
        t.answer("boundaryAt(2, 3), within a segment", x.boundaryAt(2, 3), 0);
        t.answer("boundaryAt(2, 4), suppressed", x.boundaryAt(2, 4), 2);
        t.answer("boundaryAt(2, 7)", x.boundaryAt(2, 7), 1);
        t.answer("boundaryAt(1, 4), of another kind", x.boundaryAt(1, 4), 1);
        t.answer("boundaryAt(0, 4), of another kind", x.boundaryAt(0, 4), 1);
    }

    static void promise17AKindTooSmallOrTooLarge(Sentence t) {
        t.says("BAD_VALUE");
        for (int kind : SentencesOnRules.BAD_KINDS) {
            for (int position : ANY_POSITIONS) {
                t.unchanged("boundaryAt(" + kind + ", " + position + ")", -2, x -> busy(x), x -> x.boundaryAt(kind, position));
            }
        }
    }

    static void promise17APositionTooSmallOrTooLarge(Sentence t) {
        t.says("NO_SUCH_POSITION");
        for (int kind = 0; kind < 3; kind++) {
            int of = kind;
            for (int position : BAD_POSITIONS) {
                t.unchanged("boundaryAt(" + kind + ", " + position + ")", -1, x -> busy(x), x -> x.boundaryAt(of, position));
            }
        }
        t.answer("boundaryAt(0, 101) of a full text", Make.with("a".repeat(100)).boundaryAt(0, 101), -1);
    }

    // ---- promise 18

    static void promise18AllKinds(Sentence t) {
        t.says("kind: 0 to 2");
        BoundaryAnalyzer x = threeKinds();
        for (int kind = 0; kind < 3; kind++) {
            t.answer("next(" + kind + ", 0)", x.next(kind, 0), kind + 1);
        }
    }

    static void promise18TheFirstAndLastPosition(Sentence t) {
        t.says("position: 0 to the length of the text");
        BoundaryAnalyzer x = Make.ruled(Make.with("a".repeat(100)), 1, 0, "A+");
        t.answer("next(1, 0)", x.next(1, 0), 100);
        t.answer("next(1, 99)", x.next(1, 99), 100);
        t.answer("next(1, 100), the length", x.next(1, 100), -5);
    }

    static void promise18TheNextOneBehind(Sentence t) {
        t.says("Returns the next boundary behind the position");
        BoundaryAnalyzer x = doctor();
        int[] due = {7, 7, 7, 7, 7, 7, 7, 9, 9, -5};
        for (int position = 0; position <= 9; position++) {
            t.answer("next(2, " + position + ")", x.next(2, position), due[position]);
        }
    }

    static void promise18AKindTooSmallOrTooLarge(Sentence t) {
        t.says("BAD_VALUE");
        for (int kind : SentencesOnRules.BAD_KINDS) {
            for (int position : ANY_POSITIONS) {
                t.unchanged("next(" + kind + ", " + position + ")", -2, x -> busy(x), x -> x.next(kind, position));
            }
        }
    }

    static void promise18APositionTooSmallOrTooLarge(Sentence t) {
        t.says("NO_SUCH_POSITION");
        for (int kind = 0; kind < 3; kind++) {
            int of = kind;
            for (int position : BAD_POSITIONS) {
                t.unchanged("next(" + kind + ", " + position + ")", -1, x -> busy(x), x -> x.next(of, position));
            }
        }
    }

    static void promise18NoNextOne(Sentence t) {
        t.says("NONE if there is none");
        for (int kind = 0; kind < 3; kind++) {
            int of = kind;
            t.unchanged("next(" + kind + ", 12), at the end", -5, x -> busy(x), x -> x.next(of, 12));
            t.unchanged("next(" + kind + ", 0) of the empty text", -5, x -> x.value(0), x -> x.next(of, 0));
        }
    }

    // ---- promise 19

    static void promise19AllKinds(Sentence t) {
        t.says("kind: 0 to 2");
        BoundaryAnalyzer x = threeKinds();
        for (int kind = 0; kind < 3; kind++) {
            t.answer("previous(" + kind + ", 6)", x.previous(kind, 6), 5 - kind);
        }
    }

    static void promise19TheFirstAndLastPosition(Sentence t) {
        t.says("position: 0 to the length of the text");
        BoundaryAnalyzer x = Make.ruled(Make.with("a".repeat(100)), 1, 0, "A+");
        t.answer("previous(1, 0)", x.previous(1, 0), -5);
        t.answer("previous(1, 1)", x.previous(1, 1), 0);
        t.answer("previous(1, 100), the length", x.previous(1, 100), 0);
    }

    static void promise19TheLastOneBefore(Sentence t) {
        t.says("Returns the last boundary before the position");
        BoundaryAnalyzer x = doctor();
        int[] due = {-5, 0, 0, 0, 0, 0, 0, 0, 7, 7};
        for (int position = 0; position <= 9; position++) {
            t.answer("previous(2, " + position + ")", x.previous(2, position), due[position]);
        }
    }

    static void promise19AKindTooSmallOrTooLarge(Sentence t) {
        t.says("BAD_VALUE");
        for (int kind : SentencesOnRules.BAD_KINDS) {
            for (int position : ANY_POSITIONS) {
                t.unchanged("previous(" + kind + ", " + position + ")", -2, x -> busy(x), x -> x.previous(kind, position));
            }
        }
    }

    static void promise19APositionTooSmallOrTooLarge(Sentence t) {
        t.says("NO_SUCH_POSITION");
        for (int kind = 0; kind < 3; kind++) {
            int of = kind;
            for (int position : BAD_POSITIONS) {
                t.unchanged("previous(" + kind + ", " + position + ")", -1, x -> busy(x), x -> x.previous(of, position));
            }
        }
    }

    static void promise19NoPreviousOne(Sentence t) {
        t.says("NONE if there is none");
        for (int kind = 0; kind < 3; kind++) {
            int of = kind;
            t.unchanged("previous(" + kind + ", 0)", -5, x -> busy(x), x -> x.previous(of, 0));
            t.unchanged("previous(" + kind + ", 0) of the empty text", -5, x -> x.value(0), x -> x.previous(of, 0));
        }
    }

    // ---- promise 20

    static void promise20AllKinds(Sentence t) {
        t.says("kind: 0 to 2");
        BoundaryAnalyzer x = threeKinds();
        t.answer("segmentCount(0)", x.segmentCount(0), 6);
        t.answer("segmentCount(1)", x.segmentCount(1), 3);
        t.answer("segmentCount(2)", x.segmentCount(2), 2);
    }

    static void promise20FromNoneToAHundred(Sentence t) {
        t.says("Returns the number of segments between neighbouring boundaries");
        for (int kind = 0; kind < 3; kind++) {
            t.answer("segmentCount(" + kind + ") of the empty text", Make.fresh().segmentCount(kind), 0);
            t.answer("segmentCount(" + kind + ") of one character", Make.with("a").segmentCount(kind), 1);
            t.answer("segmentCount(" + kind + ") of a full text", Make.with("a".repeat(100)).segmentCount(kind), 100);
        }
    }

    static void promise20SuppressedBoundariesPartNothing(Sentence t) {
        t.says("Returns the number of segments between neighbouring boundaries");
        BoundaryAnalyzer x = doctor();
        t.answer("segmentCount(2)", x.segmentCount(2), 2);
        Make.typed(x, "Dr").removeException();
        t.answer("segmentCount(2) without the exception", x.segmentCount(2), 3);
    }

    static void promise20AKindTooSmallOrTooLarge(Sentence t) {
        t.says("BAD_VALUE");
        for (int kind : SentencesOnRules.BAD_KINDS) {
            t.unchanged("segmentCount(" + kind + ")", -2, x -> busy(x), x -> x.segmentCount(kind));
        }
    }

    // ---- promise 21

    static void promise21AllKinds(Sentence t) {
        t.says("kind: 0 to 2");
        BoundaryAnalyzer x = threeKinds();
        for (int kind = 0; kind < 3; kind++) {
            t.answer("segment(" + kind + ", 1)", x.segment(kind, 1), kind + 1);
        }
    }

    static void promise21TheFirstAndLastSegment(Sentence t) {
        t.says("k: number of the segment, from 0");
        BoundaryAnalyzer x = Make.with("a".repeat(100));
        t.answer("segment(0, 0)", x.segment(0, 0), 0);
        t.answer("segment(0, 99)", x.segment(0, 99), 99);
        t.answer("segment(0, 100)", x.segment(0, 100), -5);
    }

    static void promise21TheBeginning(Sentence t) {
        t.says("Returns its beginning");
        BoundaryAnalyzer x = doctor();
        t.answer("segment(2, 0)", x.segment(2, 0), 0);
        t.answer("segment(2, 1), behind a suppressed one", x.segment(2, 1), 7);
        t.answer("segment(2, 2)", x.segment(2, 2), -5);
    }

    static void promise21AKindTooSmallOrTooLarge(Sentence t) {
        t.says("BAD_VALUE, also if k is negative");
        for (int kind : SentencesOnRules.BAD_KINDS) {
            for (int k : new int[] {0, -1, 100}) {
                t.unchanged("segment(" + kind + ", " + k + ")", -2, x -> busy(x), x -> x.segment(kind, k));
            }
        }
    }

    static void promise21ANegativeNumber(Sentence t) {
        t.says("BAD_VALUE, also if k is negative");
        for (int k : new int[] {-1, -2, LOW}) {
            t.unchanged("segment(2, " + k + ")", -2, x -> busy(x), x -> x.segment(2, k));
            t.unchanged("segment(2, " + k + ") of the empty text", -2, x -> x.value(0), x -> x.segment(2, k));
        }
    }

    static void promise21NotSoMany(Sentence t) {
        t.says("NONE if there are not so many");
        for (int kind = 0; kind < 3; kind++) {
            int of = kind;
            int count = busy(Make.fresh()).segmentCount(kind);
            t.holds("the last segment of kind " + kind + " is there", busy(Make.fresh()).segment(kind, count - 1) >= 0);
            for (int k : new int[] {count, count + 1, 100, HIGH}) {
                t.unchanged("segment(" + kind + ", " + k + ")", -5, x -> busy(x), x -> x.segment(of, k));
            }
            t.unchanged("segment(" + kind + ", 0) of the empty text", -5, x -> x.value(0), x -> x.segment(of, 0));
        }
    }

    // ---- promise 22

    static void promise22AllKinds(Sentence t) {
        t.says("kind: 0 to 2");
        BoundaryAnalyzer x = Make.with("a11   ");
        Make.ruled(Make.ruled(Make.ruled(x, 0, 0, "A+"), 1, 0, "B+"), 2, 0, "C+");
        t.answer("longest(0)", x.longest(0), 0);
        t.answer("longest(1)", x.longest(1), 1);
        t.answer("longest(2)", x.longest(2), 3);
    }

    static void promise22TheFirstOfSeveral(Sentence t) {
        t.says("Returns the beginning of the longest segment, the first one of several");
        BoundaryAnalyzer x = Make.ruled(Make.with("a bb cc d"), 1, 0, "A+");
        t.answer("longest(1)", x.longest(1), 2);
        t.answer("longest(0), all of them alike", x.longest(0), 0);
    }

    static void promise22TheFirstAndTheLastSegment(Sentence t) {
        t.says("Returns the beginning of the longest segment, the first one of several");
        BoundaryAnalyzer x = Make.ruled(Make.with("aaa bb c"), 1, 0, "A+");
        t.answer("longest(1), the first segment", x.longest(1), 0);
        Make.append(x, "ddd");
        t.answer("longest(1), the last segment", x.longest(1), 7);
        BoundaryAnalyzer y = Make.ruled(Make.with("a".repeat(100)), 1, 0, "A+");
        t.answer("longest(1), the only segment", y.longest(1), 0);
    }

    static void promise22ALongerOneBehindALongOne(Sentence t) {
        t.says("Returns the beginning of the longest segment, the first one of several");
        BoundaryAnalyzer x = Make.ruled(Make.with("a bb ccc dddd"), 1, 0, "A+");
        t.answer("longest(1), each one longer", x.longest(1), 9);
        BoundaryAnalyzer y = Make.ruled(Make.with("dddd ccc bb a"), 1, 0, "A+");
        t.answer("longest(1), each one shorter", y.longest(1), 0);
        BoundaryAnalyzer z = Make.ruled(Make.with("a bb cccc ddd"), 1, 0, "A+");
        t.answer("longest(1), one within", z.longest(1), 5);
    }

    static void promise22ASegmentJoinedByAnException(Sentence t) {
        t.says("Returns the beginning of the longest segment, the first one of several");
        BoundaryAnalyzer x = Make.excepting(Make.ruled(Make.with("aaa b. cc"), 2, 0, "A+D?"), "b");
        t.same("boundaries", Make.states(x, 2), "1001102201");
        t.answer("longest(2)", x.longest(2), 4);
        x.removeException();
        t.answer("longest(2) without the exception", x.longest(2), 0);
    }

    static void promise22AKindTooSmallOrTooLarge(Sentence t) {
        t.says("BAD_VALUE");
        for (int kind : SentencesOnRules.BAD_KINDS) {
            t.unchanged("longest(" + kind + ")", -2, x -> busy(x), x -> x.longest(kind));
            t.unchanged("longest(" + kind + ") of the empty text", -2, x -> x.value(0), x -> x.longest(kind));
        }
    }

    static void promise22TheEmptyText(Sentence t) {
        t.says("NONE if there is none");
        for (int kind = 0; kind < 3; kind++) {
            int of = kind;
            t.unchanged("longest(" + kind + ")", -5, x -> x.value(0), x -> x.longest(of));
        }
        BoundaryAnalyzer y = Make.with("ab");
        y.erase(0, 2);
        t.answer("longest(0), all erased", y.longest(0), -5);
    }

    // ---- promise 23

    static void promise23AllKinds(Sentence t) {
        t.says("kind: 0 to 2");
        BoundaryAnalyzer x = threeKinds();
        t.answer("segmentsWith(0, 0)", x.segmentsWith(0, 0), 6);
        t.answer("segmentsWith(1, 0)", x.segmentsWith(1, 0), 3);
        t.answer("segmentsWith(2, 0)", x.segmentsWith(2, 0), 2);
    }

    static void promise23TheFirstAndLastClass(Sentence t) {
        t.says("number: a class, 0 to 11");
        BoundaryAnalyzer x = Make.with("a1 .,!'-()^##a");
        for (int number = 0; number < 12; number++) {
            int due = number == 0 || number == 11 ? 2 : 1;
            t.answer("segmentsWith(0, " + number + ")", x.segmentsWith(0, number), due);
        }
    }

    static void promise23NoneAndAll(Sentence t) {
        t.says("Returns the number of segments that contain a character of this class");
        for (int kind = 0; kind < 3; kind++) {
            t.answer("segmentsWith(" + kind + ", 0) of the empty text", Make.fresh().segmentsWith(kind, 0), 0);
            t.answer("segmentsWith(" + kind + ", 0) of a full text", Make.with("a".repeat(100)).segmentsWith(kind, 0), 100);
            t.answer("segmentsWith(" + kind + ", 1) of a full text", Make.with("a".repeat(100)).segmentsWith(kind, 1), 0);
        }
    }

    static void promise23ASegmentCountsOnce(Sentence t) {
        t.says("Returns the number of segments that contain a character of this class");
        BoundaryAnalyzer x = Make.ruled(Make.with("1aa1 a1"), 1, 0, "(A|B)+");
        t.answer("segmentsWith(1, 0), within, and at the beginning", x.segmentsWith(1, 0), 2);
        t.answer("segmentsWith(1, 1), at both ends, and at the end", x.segmentsWith(1, 1), 2);
        t.answer("segmentsWith(1, 2), alone", x.segmentsWith(1, 2), 1);
    }

    static void promise23ASegmentJoinedByAnException(Sentence t) {
        t.says("Returns the number of segments that contain a character of this class");
        BoundaryAnalyzer x = doctor();
        t.answer("segmentsWith(2, 2)", x.segmentsWith(2, 2), 1);
        Make.typed(x, "Dr").removeException();
        t.answer("segmentsWith(2, 2) without the exception", x.segmentsWith(2, 2), 2);
    }

    static void promise23AKindTooSmallOrTooLarge(Sentence t) {
        t.says("BAD_VALUE");
        for (int kind : SentencesOnRules.BAD_KINDS) {
            t.unchanged("segmentsWith(" + kind + ", 0)", -2, x -> busy(x), x -> x.segmentsWith(kind, 0));
        }
    }

    static void promise23ANumberTooSmallOrTooLarge(Sentence t) {
        t.says("BAD_VALUE");
        for (int number : new int[] {-1, 12, 256, LOW, HIGH}) {
            t.unchanged("segmentsWith(0, " + number + ")", -2, x -> busy(x), x -> x.segmentsWith(0, number));
            t.unchanged("segmentsWith(0, " + number + ") of the empty text", -2, x -> x.value(0),
                    x -> x.segmentsWith(0, number));
        }
    }

    // ---- promise 24

    static void promise24AllKinds(Sentence t) {
        t.says("kind: 0 to 2");
        BoundaryAnalyzer x = threeKinds();
        for (int kind = 0; kind < 3; kind++) {
            t.answer("looksAt(" + kind + ", 0)", x.looksAt(kind, 0), kind == 0 ? 1 : kind + 2);
        }
    }

    static void promise24TheFirstAndLastPosition(Sentence t) {
        t.says("position: position of a character");
        BoundaryAnalyzer x = Make.ruled(Make.with("a".repeat(100)), 1, 0, "AA");
        t.answer("looksAt(1, 0)", x.looksAt(1, 0), 3);
        t.answer("looksAt(1, 98)", x.looksAt(1, 98), 3);
        t.answer("looksAt(1, 99), the last character", x.looksAt(1, 99), 2);
        t.answer("looksAt(0, 99), without rules", x.looksAt(0, 99), 1);
    }

    static void promise24TheEndCountsAsOneMore(Sentence t) {
        t.says("Returns how many characters the analysis at this position looks at, plus 1 if it looks at the end");
        t.same("all, and the end", Make.looks(Make.ruled(Make.with("aaa"), 0, 0, "A+"), 0), "4 3 2");
        t.same("all, and not the end", Make.looks(Make.ruled(Make.with("aa1"), 0, 0, "A+"), 0), "3 2 1");
        t.answer("all of a full text, and the end",
                Make.ruled(Make.with("a".repeat(100)), 0, 0, "A+").looksAt(0, 0), 101);
    }

    static void promise24WhereNoBoundaryIs(Sentence t) {
        t.says("Returns how many characters the analysis at this position looks at, plus 1 if it looks at the end");
        BoundaryAnalyzer x = Make.ruled(Make.with("abc 1"), 1, 0, "A+C");
        t.same("boundaries", Make.states(x, 1), "100011");
        t.same("looks, also within a segment", Make.looks(x, 1), "5 4 3 1 1");
    }

    static void promise24AKindTooSmallOrTooLarge(Sentence t) {
        t.says("BAD_VALUE");
        for (int kind : SentencesOnRules.BAD_KINDS) {
            for (int position : ANY_POSITIONS) {
                t.unchanged("looksAt(" + kind + ", " + position + ")", -2, x -> busy(x), x -> x.looksAt(kind, position));
            }
        }
    }

    static void promise24APositionTooSmallOrTooLarge(Sentence t) {
        t.says("NO_SUCH_POSITION");
        for (int kind = 0; kind < 3; kind++) {
            int of = kind;
            for (int position : new int[] {-1, SentencesOnRules.BUSY_LENGTH, 99, 100, LOW, HIGH}) {
                t.unchanged("looksAt(" + kind + ", " + position + ")", -1, x -> busy(x), x -> x.looksAt(of, position));
            }
            t.unchanged("looksAt(" + kind + ", 0) of the empty text", -1, x -> x.value(0), x -> x.looksAt(of, 0));
        }
    }

    // ---- promise 25

    static void promise25AllKinds(Sentence t) {
        t.says("kind: 0 to 2");
        BoundaryAnalyzer x = threeKinds();
        x.setClass('#', 0);
        t.answer("work(0)", x.work(0), 6);
        t.answer("work(1)", x.work(1), 3);
        t.answer("work(2)", x.work(2), 2);
    }

    static final String WORK = "Returns the work for this kind of the latest edit, or change of a rule of this kind, "
            + "or of a class, whichever came last (0 if there was none)";

    static void promise25NoChangeYet(Sentence t) {
        t.says(WORK);
        BoundaryAnalyzer x = Make.fresh();
        t.same("works at first", Make.works(x), "0 0 0");
        Make.excepting(x, "a");
        x.removeException();
        t.same("works behind exceptions", Make.works(x), "0 0 0");
        Make.typed(x, "").setRule(0, 0);
        x.undo();
        x.redo();
        t.same("works behind calls without effect", Make.works(x), "0 0 0");
    }

    static void promise25TheEmptyText(Sentence t) {
        t.says(WORK);
        BoundaryAnalyzer x = Make.with("a");
        t.same("works of an edit", Make.works(x), "1 1 1");
        x.erase(0, 1);
        t.same("works of the erasure of all", Make.works(x), "0 0 0");
        x.undo();
        Make.ruled(x, 1, 0, "A");
        t.same("works of a rule", Make.works(x), "1 1 1");
        x.redo();
        Make.ruled(x, 1, 0, "A");
        x.setClass('a', 3);
        t.same("works of a rule and a class for no text", Make.works(x), "0 0 0");
    }

    static void promise25TheLatestEdit(Sentence t) {
        t.says(WORK);
        BoundaryAnalyzer x = Make.ruled(Make.with("ab cd"), 1, 0, "A+");
        x.setClass('#', 5);
        t.same("works of a class", Make.works(x), "5 3 5");
        x.insert(5, 'e');
        t.same("works of an insertion", Make.works(x), "1 1 1");
        x.erase(1, 1);
        t.same("works of an erasure", Make.works(x), "0 1 0");
        x.insert(1, ' ');
        t.same("works of another insertion", Make.works(x), "1 2 1");
    }

    static void promise25AChangeOfARuleOfThisKind(Sentence t) {
        t.says(WORK);
        BoundaryAnalyzer x = Make.with("ab cd");
        for (int kind = 0; kind < 3; kind++) {
            Make.ruled(x, kind, kind, "A+");
            t.answer("work(" + kind + ") of its rule", x.work(kind), 3);
        }
        Make.typed(x, "").setRule(1, 1);
        t.same("works with a rule removed", Make.works(x), "3 5 3");
        x.insert(0, ' ');
        t.same("works of an edit", Make.works(x), "1 1 1");
        Make.ruled(x, 2, 2, "C");
        t.same("works with a rule in place of another", Make.works(x), "1 1 6");
    }

    static void promise25AChangeOfAClass(Sentence t) {
        t.says(WORK);
        BoundaryAnalyzer x = Make.ruled(Make.with("ab cd"), 1, 0, "A+");
        x.setClass('~', 3);
        t.same("works, also for a character that is not there", Make.works(x), "5 3 5");
        x.setClass(' ', 0);
        t.same("works, by the new class", Make.works(x), "5 1 5");
    }

    static void promise25AClassThatStays(Sentence t) {
        t.says(WORK);
        BoundaryAnalyzer x = Make.ruled(Make.with("ab cd"), 1, 0, "A+");
        x.insert(0, 'x');
        t.same("works of an edit", Make.works(x), "1 1 1");
        x.setClass('a', 0);
        t.same("works then", Make.works(x), "1 1 1");
    }

    static void promise25AKindTooSmallOrTooLarge(Sentence t) {
        t.says("BAD_VALUE");
        for (int kind : SentencesOnRules.BAD_KINDS) {
            t.unchanged("work(" + kind + ")", -2, x -> busy(x), x -> x.work(kind));
        }
    }

    // ---- objects

    private static BoundaryAnalyzer busy(BoundaryAnalyzer x) {
        return SentencesOnRules.busy(x, "(A|B)+");
    }

    /** Six letters; the segments of the kinds 0, 1 and 2 have 1, 2 and 3 of them. */
    private static BoundaryAnalyzer threeKinds() {
        return Make.ruled(Make.ruled(Make.with("aaaaaa"), 1, 0, "AA"), 2, 0, "AAA");
    }

    /** "Dr. ", "No " and "ok" in kind 2, the first two of which an exception joins. */
    private static BoundaryAnalyzer doctor() {
        return Make.excepting(Make.ruled(Make.with("Dr. No ok"), 2, 0, "A+D?C*"), "Dr");
    }
}
