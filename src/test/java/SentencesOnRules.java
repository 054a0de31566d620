/** Tests of single sentences: classes, patterns, rules and exceptions (promises 1 to 10). */
final class SentencesOnRules {
    private static final int LOW = Integer.MIN_VALUE;
    private static final int HIGH = Integer.MAX_VALUE;
    private static final String LONGEST_RULE = "ABCDEFGHIJKL.(A|B)*/C+D?";
    private static final String TEN_WORDS = "abcdefghij";

    private SentencesOnRules() {}

    // ---- promise 1

    static void promise01EverythingIsEmptyAtFirst(Sentence t) {
        t.says("Creates an analyser with an empty text, an empty pattern, no rules and no exceptions");
        BoundaryAnalyzer x = Make.fresh();
        t.answer("length of the text", x.value(0), 0);
        t.answer("charAt(0)", x.charAt(0), -1);
        t.answer("length of the pattern", x.value(1), 0);
        t.answer("clearPattern()", x.clearPattern(), 0);
        t.answer("number of exceptions", x.value(2), 0);
        for (int kind = 0; kind < 3; kind++) {
            for (int place = 0; place < 5; place++) {
                t.answer("ruleText", x.ruleText(kind, place, 0), -5);
                t.answer("matchLength", x.matchLength(kind, place, 0), -5);
                t.answer("setRule of nothing", x.setRule(kind, place), 0);
            }
        }
    }

    static void promise01NothingIsRememberedAtFirst(Sentence t) {
        t.says("Creates an analyser");
        BoundaryAnalyzer x = Make.fresh();
        t.answer("edits to be undone", x.value(3), 0);
        t.answer("edits to be redone", x.value(4), 0);
        t.answer("undo()", x.undo(), -5);
        t.answer("redo()", x.redo(), -5);
        t.same("works", Make.works(x), "0 0 0");
    }

    static void promise01ObjectsShareNothing(Sentence t) {
        t.says("Creates an analyser");
        BoundaryAnalyzer x = Make.fresh();
        busy(Make.fresh(), "A");
        t.answer("length of the text", x.value(0), 0);
        t.answer("length of the pattern", x.value(1), 0);
        t.answer("number of exceptions", x.value(2), 0);
        t.answer("edits to be undone", x.value(3), 0);
        t.answer("edits to be redone", x.value(4), 0);
        t.answer("ruleText(0, 0, 0)", x.ruleText(0, 0, 0), -5);
        t.answer("classOf('#')", x.classOf('#'), 11);
        t.same("works", Make.works(x), "0 0 0");
    }

    // ---- promise 2

    static void promise02AClassIsSet(Sentence t) {
        t.says("Sets the class of a character");
        BoundaryAnalyzer x = Make.fresh();
        x.setClass('m', 9);
        t.answer("classOf('m')", x.classOf('m'), 9);
        t.answer("classOf('l'), one below", x.classOf('l'), 0);
        t.answer("classOf('n'), one above", x.classOf('n'), 0);
        t.answer("classOf('M'), the other case", x.classOf('M'), 0);
    }

    static void promise02TheFirstAndLastCharacter(Sentence t) {
        t.says("character: code 32 to 126");
        BoundaryAnalyzer x = Make.fresh();
        t.answer("setClass(32, 7)", x.setClass((char) 32, 7), 2);
        t.answer("classOf(32)", x.classOf((char) 32), 7);
        t.answer("setClass(126, 6)", x.setClass((char) 126, 6), 10);
        t.answer("classOf(126)", x.classOf((char) 126), 6);
    }

    static void promise02TheFirstAndLastClass(Sentence t) {
        t.says("number: the class, 0 to 11");
        BoundaryAnalyzer x = Make.fresh();
        t.answer("setClass('a', 11)", x.setClass('a', 11), 0);
        t.answer("classOf('a')", x.classOf('a'), 11);
        t.answer("setClass('a', 0)", x.setClass('a', 0), 11);
        t.answer("classOf('a')", x.classOf('a'), 0);
    }

    static void promise02ThePreviousClassIsAnswered(Sentence t) {
        t.says("Returns the previous class");
        BoundaryAnalyzer x = Make.fresh();
        int before = 1;
        for (int number = 11; number >= 0; number--) {
            t.answer("setClass('7', " + number + ")", x.setClass('7', number), before);
            before = number;
        }
        t.answer("setClass('7', 0) to its own", x.setClass('7', 0), 0);
    }

    static void promise02ACharacterTooSmallOrTooLarge(Sentence t) {
        t.says("BAD_VALUE");
        for (char code : BAD_CODES) {
            t.unchanged("setClass(" + (int) code + ", 3)", -2, x -> busy(x, "A+"), x -> x.setClass(code, 3));
        }
    }

    static void promise02ANumberTooSmallOrTooLarge(Sentence t) {
        t.says("BAD_VALUE");
        for (int number : new int[] {-1, 12, 256, 65536, LOW, HIGH}) {
            t.unchanged("setClass('a', " + number + ")", -2, x -> busy(x, "A+"), x -> x.setClass('a', number));
        }
    }

    // ---- promise 3

    static void promise03TheFirstAndLastCharacter(Sentence t) {
        t.says("character: code 32 to 126");
        t.answer("classOf(32)", Make.fresh().classOf((char) 32), 2);
        t.answer("classOf(126)", Make.fresh().classOf((char) 126), 10);
    }

    static void promise03TheClassIsAnswered(Sentence t) {
        t.says("Returns its class");
        BoundaryAnalyzer x = Make.fresh();
        for (char code = 32; code <= 126; code++) {
            x.setClass(code, code % 12);
        }
        for (char code = 32; code <= 126; code++) {
            t.answer("classOf(" + (int) code + ")", x.classOf(code), code % 12);
        }
    }

    static void promise03ACharacterTooSmallOrTooLarge(Sentence t) {
        t.says("BAD_VALUE");
        for (char code : BAD_CODES) {
            t.unchanged("classOf(" + (int) code + ")", -2, x -> busy(x, "A+"), x -> x.classOf(code));
        }
    }

    // ---- promise 4

    static void promise04ACharacterIsAppended(Sentence t) {
        t.says("Appends a character to the pattern");
        BoundaryAnalyzer x = Make.fresh();
        x.type('A');
        x.type('|');
        x.type('B');
        x.setRule(0, 0);
        t.same("the rule", Make.rule(x, 0, 0), "A|B");
    }

    static void promise04AnyCharacterIsTaken(Sentence t) {
        t.says("character: any character");
        BoundaryAnalyzer x = Make.fresh();
        char[] any = {0, 1, 31, 32, 126, 127, 128, 255, 256, 0xd800, 0xdfff, 0xffff};
        for (int i = 0; i < any.length; i++) {
            t.answer("type(" + (int) any[i] + ")", x.type(any[i]), i + 1);
        }
        t.answer("the fault of it", x.setRule(0, 0), -100);
    }

    static void promise04TheLengthIsAnswered(Sentence t) {
        t.says("Returns the length of the pattern then");
        BoundaryAnalyzer x = Make.fresh();
        for (int length = 1; length <= 24; length++) {
            t.answer("type('A')", x.type('A'), length);
            t.answer("value(1)", x.value(1), length);
        }
    }

    static void promise04TheFullPattern(Sentence t) {
        t.says("FULL if it has 24 characters");
        t.answer("length of the pattern", LONGEST_RULE.length(), 24);
        for (char code : new char[] {'A', '*', 0, 0xffff}) {
            t.unchanged("type(" + (int) code + ")", -3, x -> busy(x, LONGEST_RULE), x -> x.type(code));
        }
        BoundaryAnalyzer y = Make.typed(Make.fresh(), LONGEST_RULE);
        t.answer("type, the 25th", y.type('A'), -3);
        t.answer("type, the 26th", y.type('A'), -3);
        t.answer("clearPattern()", y.clearPattern(), 24);
        t.answer("type, with room again", y.type('A'), 1);
    }

    // ---- promise 5

    static void promise05ThePatternIsEmptied(Sentence t) {
        t.says("Empties the pattern");
        BoundaryAnalyzer x = Make.typed(Make.fresh(), "B*");
        x.clearPattern();
        t.answer("value(1)", x.value(1), 0);
        x.type('A');
        x.setRule(0, 0);
        t.same("a rule typed then", Make.rule(x, 0, 0), "A");
    }

    static void promise05TheLengthBeforeIsAnswered(Sentence t) {
        t.says("Returns the length that it had");
        for (int length = 0; length <= 24; length++) {
            t.answer("clearPattern()", Make.typed(Make.fresh(), "A".repeat(length)).clearPattern(), length);
        }
    }

    static void promise05TheEmptyPattern(Sentence t) {
        t.says("Returns the length that it had");
        t.unchanged("clearPattern()", 0, x -> busy(x, ""), x -> x.clearPattern());
    }

    static void promise05RulesAndExceptionsStay(Sentence t) {
        t.says("Empties the pattern");
        BoundaryAnalyzer x = Make.ruled(Make.excepting(Make.fresh(), "Dr"), 0, 0, "A+");
        x.clearPattern();
        t.same("the rule", Make.rule(x, 0, 0), "A+");
        t.answer("number of exceptions", x.value(2), 1);
    }

    // ---- promise 6

    static void promise06ThePatternBecomesARule(Sentence t) {
        t.says("Makes the pattern, which stays, a rule, in place of one that is there");
        BoundaryAnalyzer x = Make.with("ab12");
        Make.ruled(x, 0, 3, "A+");
        t.same("boundaries", Make.states(x, 0), "10111");
        Make.ruled(x, 0, 3, "B+");
        t.same("the rule in its place", Make.rule(x, 0, 3), "B+");
        t.same("boundaries with it alone", Make.states(x, 0), "11101");
    }

    static void promise06ThePatternStays(Sentence t) {
        t.says("Makes the pattern, which stays, a rule");
        BoundaryAnalyzer x = Make.typed(Make.fresh(), "A+");
        x.setRule(0, 0);
        t.answer("length of the pattern", x.value(1), 2);
        t.answer("type behind it", x.type('B'), 3);
        t.same("the rule does not grow with the pattern", Make.rule(x, 0, 0), "A+");
        x.setRule(2, 4);
        t.same("the pattern made a rule again", Make.rule(x, 2, 4), "A+B");
    }

    static void promise06TheLongestPattern(Sentence t) {
        t.says("Makes the pattern, which stays, a rule");
        BoundaryAnalyzer x = Make.ruled(Make.fresh(), 1, 1, LONGEST_RULE);
        t.same("a rule of 24 characters", Make.rule(x, 1, 1), LONGEST_RULE);
        Make.ruled(x, 1, 1, "C");
        t.same("a short one in its place", Make.rule(x, 1, 1), "C");
    }

    static void promise06TheLongestPatternIsMatched(Sentence t) {
        t.says("Makes the pattern, which stays, a rule");
        BoundaryAnalyzer x = Make.ruled(Make.with("a".repeat(23) + "1" + "a".repeat(22)), 1, 1, "A".repeat(22) + "/A");
        t.answer("24 characters, the last one of the look-ahead", x.matchLength(1, 1, 0), 22);
        t.answer("where the look-ahead is a digit", x.matchLength(1, 1, 1), 0);
        t.answer("where the look-ahead is missing", x.matchLength(1, 1, 24), 0);
        Make.ruled(x, 1, 1, "A".repeat(22) + "/.");
        t.answer("where any may follow", x.matchLength(1, 1, 1), 22);
        Make.ruled(x, 1, 1, "A".repeat(23) + "B");
        t.answer("24 letters", x.matchLength(1, 1, 0), 24);
        t.answer("24 letters from the next one on", x.matchLength(1, 1, 1), 0);
        Make.ruled(x, 1, 1, "A".repeat(21) + "B.*");
        t.answer("a repetition at the end", x.matchLength(1, 1, 2), 44);
    }

    static void promise06NothingOfTheRuleBeforeStays(Sentence t) {
        t.says("in place of one that is there");
        String[] rules = {"(AB?)+", "AB", "A/B", "A", "B*", "..", "(A|B)*/A", "A?", ".*D", "A|AB"};
        for (String before : rules) {
            for (String then : rules) {
                BoundaryAnalyzer x = Make.ruled(Make.ruled(Make.with("aa1a1.a"), 1, 0, before), 1, 0, then);
                BoundaryAnalyzer y = Make.ruled(Make.with("aa1a1.a"), 1, 0, then);
                String name = then + " in place of " + before;
                t.same(name + ": boundaries", Make.states(x, 1), Make.states(y, 1));
                t.same(name + ": looks", Make.looks(x, 1), Make.looks(y, 1));
            }
        }
    }

    static void promise06NothingOfARemovedRuleStays(Sentence t) {
        t.says("The empty pattern removes the rule");
        BoundaryAnalyzer x = Make.ruled(Make.with("aa1a1.a"), 1, 0, "(AB?)+/D");
        Make.typed(x, "").setRule(1, 0);
        t.same("boundaries without it", Make.states(x, 1), "11111111");
        t.same("looks without it", Make.looks(x, 1), "1 1 1 1 1 1 1");
        Make.ruled(x, 1, 0, "AB");
        t.same("boundaries with another one", Make.states(x, 1), "11010111");
    }

    static void promise06TheEmptyPatternRemovesARule(Sentence t) {
        t.says("The empty pattern removes the rule");
        BoundaryAnalyzer x = Make.ruled(Make.ruled(Make.with("ab12"), 1, 0, "A+"), 1, 4, "B+");
        Make.typed(x, "");
        t.answer("setRule(1, 0)", x.setRule(1, 0), 1);
        t.answer("ruleText(1, 0, 0)", x.ruleText(1, 0, 0), -5);
        t.answer("matchLength(1, 0, 0)", x.matchLength(1, 0, 0), -5);
        t.same("the other rule", Make.rule(x, 1, 4), "B+");
        t.same("boundaries", Make.states(x, 1), "11101");
        t.same("works", Make.works(x), "1 3 1");
    }

    static void promise06TheEmptyPatternWithoutARule(Sentence t) {
        t.says("where there is none, nothing happens then (work() stays, too)");
        for (int kind = 0; kind < 3; kind++) {
            int of = kind;
            t.unchanged("setRule(" + kind + ", 3)", 0, x -> busy(x, ""), x -> x.setRule(of, 3));
        }
        BoundaryAnalyzer y = Make.ruled(Make.with("ab"), 0, 0, "A");
        Make.append(y, "c");
        t.same("works of an edit", Make.works(y), "2 1 1");
        Make.typed(y, "").setRule(0, 1);
        t.same("works then", Make.works(y), "2 1 1");
    }

    static void promise06AllKinds(Sentence t) {
        t.says("kind: 0 to 2");
        BoundaryAnalyzer x = Make.with("ab");
        for (int kind = 0; kind < 3; kind++) {
            t.answer("setRule(" + kind + ", 0)", Make.typed(x, "AA").setRule(kind, 0), 0);
            t.same("boundaries of kind " + kind, Make.states(x, kind), "101");
        }
    }

    static void promise06AllPlaces(Sentence t) {
        t.says("place: 0 to 4");
        String[] rules = {"A", "B", "C", "D", "E"};
        BoundaryAnalyzer x = Make.fresh();
        for (int place = 0; place < 5; place++) {
            t.answer("setRule(1, " + place + ")", Make.typed(x, rules[place]).setRule(1, place), 0);
        }
        for (int place = 0; place < 5; place++) {
            t.same("the rule at " + place, Make.rule(x, 1, place), rules[place]);
        }
    }

    static void promise06WhetherThereWasARule(Sentence t) {
        t.says("Returns 1 if there was a rule at this place, otherwise 0");
        BoundaryAnalyzer x = Make.typed(Make.fresh(), "A");
        t.answer("the first rule", x.setRule(2, 2), 0);
        t.answer("the same one again", x.setRule(2, 2), 1);
        t.answer("at another place", x.setRule(2, 3), 0);
        t.answer("of another kind", x.setRule(1, 2), 0);
        t.answer("removed", Make.typed(x, "").setRule(2, 2), 1);
        t.answer("removed again", x.setRule(2, 2), 0);
        t.answer("set again", Make.typed(x, "B").setRule(2, 2), 0);
    }

    static void promise06AKindTooSmallOrTooLarge(Sentence t) {
        t.says("BAD_VALUE");
        for (int kind : BAD_KINDS) {
            for (String pattern : new String[] {"A+", "", "(A"}) {
                t.unchanged("setRule(" + kind + ", 0) of '" + pattern + "'", -2, x -> busy(x, pattern),
                        x -> x.setRule(kind, 0));
            }
        }
    }

    static void promise06APlaceTooSmallOrTooLarge(Sentence t) {
        t.says("BAD_VALUE");
        for (int place : BAD_PLACES) {
            for (String pattern : new String[] {"A+", "", "(A"}) {
                t.unchanged("setRule(0, " + place + ") of '" + pattern + "'", -2, x -> busy(x, pattern),
                        x -> x.setRule(0, place));
            }
        }
    }

    static void promise06AFaultAtTheBeginning(Sentence t) {
        t.says("-100 minus the fault if the pattern has one");
        t.unchanged("setRule(0, 0) of '*A'", -100, x -> busy(x, "*A"), x -> x.setRule(0, 0));
    }

    static void promise06AFaultWithin(Sentence t) {
        t.says("-100 minus the fault if the pattern has one");
        t.unchanged("setRule(2, 2) of 'A|*'", -102, x -> busy(x, "A|*"), x -> x.setRule(2, 2));
        t.unchanged("setRule(2, 4) of 'A|*', where no rule is", -102, x -> busy(x, "A|*"), x -> x.setRule(2, 4));
    }

    static void promise06AFaultAtTheEnd(Sentence t) {
        t.says("-100 minus the fault if the pattern has one");
        t.unchanged("setRule(0, 0) of '((A)'", -104, x -> busy(x, "((A)"), x -> x.setRule(0, 0));
        String last = "A".repeat(23) + "x";
        t.unchanged("setRule(0, 0), the last of 24", -123, x -> busy(x, last), x -> x.setRule(0, 0));
        String open = "A".repeat(23) + "/";
        t.unchanged("setRule(0, 0), 24 and no end", -124, x -> busy(x, open), x -> x.setRule(0, 0));
    }

    // ---- promise 7

    static void promise07ACharacterOfTheRule(Sentence t) {
        t.says("Returns a character of a rule");
        BoundaryAnalyzer x = Make.ruled(Make.fresh(), 0, 0, "A|B");
        Make.typed(x, "C");
        t.answer("ruleText(0, 0, 0)", x.ruleText(0, 0, 0), 'A');
        t.answer("ruleText(0, 0, 2)", x.ruleText(0, 0, 2), 'B');
    }

    static void promise07AllKinds(Sentence t) {
        t.says("kind: 0 to 2");
        BoundaryAnalyzer x = Make.fresh();
        for (int kind = 0; kind < 3; kind++) {
            Make.ruled(x, kind, 1, String.valueOf((char) ('A' + kind)));
        }
        for (int kind = 0; kind < 3; kind++) {
            t.answer("ruleText(" + kind + ", 1, 0)", x.ruleText(kind, 1, 0), 'A' + kind);
        }
    }

    static void promise07AllPlaces(Sentence t) {
        t.says("place: 0 to 4");
        BoundaryAnalyzer x = Make.fresh();
        for (int place = 0; place < 5; place++) {
            Make.ruled(x, 2, place, String.valueOf((char) ('A' + place)));
        }
        for (int place = 0; place < 5; place++) {
            t.answer("ruleText(2, " + place + ", 0)", x.ruleText(2, place, 0), 'A' + place);
        }
    }

    static void promise07TheFirstAndLastIndex(Sentence t) {
        t.says("i: index of the character, from 0");
        BoundaryAnalyzer x = Make.ruled(Make.fresh(), 2, 4, LONGEST_RULE);
        t.answer("ruleText(2, 4, 0)", x.ruleText(2, 4, 0), 'A');
        t.answer("ruleText(2, 4, 23)", x.ruleText(2, 4, 23), '?');
    }

    static void promise07TheCharacterAsAnInt(Sentence t) {
        t.says("Returns the character as an int");
        BoundaryAnalyzer x = Make.ruled(Make.fresh(), 1, 2, LONGEST_RULE);
        for (int i = 0; i < LONGEST_RULE.length(); i++) {
            t.answer("ruleText(1, 2, " + i + ")", x.ruleText(1, 2, i), LONGEST_RULE.charAt(i));
        }
    }

    static void promise07AKindOrPlaceTooSmallOrTooLarge(Sentence t) {
        t.says("BAD_VALUE, also if i is negative");
        for (int kind : BAD_KINDS) {
            t.unchanged("ruleText(" + kind + ", 0, 0)", -2, x -> busy(x, "A"), x -> x.ruleText(kind, 0, 0));
        }
        for (int place : BAD_PLACES) {
            t.unchanged("ruleText(0, " + place + ", 0)", -2, x -> busy(x, "A"), x -> x.ruleText(0, place, 0));
        }
    }

    static void promise07ANegativeIndex(Sentence t) {
        t.says("BAD_VALUE, also if i is negative");
        for (int i : new int[] {-1, -24, LOW}) {
            t.unchanged("ruleText(0, 0, " + i + ")", -2, x -> busy(x, "A"), x -> x.ruleText(0, 0, i));
            t.unchanged("ruleText(0, 3, " + i + "), no rule", -2, x -> busy(x, "A"), x -> x.ruleText(0, 3, i));
        }
    }

    static void promise07NoRule(Sentence t) {
        t.says("NONE if there is no rule, or it is not so long");
        for (int i : new int[] {0, 1, 24, HIGH}) {
            t.unchanged("ruleText(0, 3, " + i + ")", -5, x -> busy(x, "A"), x -> x.ruleText(0, 3, i));
        }
    }

    static void promise07ARuleNotSoLong(Sentence t) {
        t.says("NONE if there is no rule, or it is not so long");
        for (int i : new int[] {2, 3, 23, 24, HIGH}) {
            t.unchanged("ruleText(0, 0, " + i + ") of 'A+'", -5, x -> busy(x, "BBBB"), x -> x.ruleText(0, 0, i));
        }
        BoundaryAnalyzer y = Make.ruled(Make.fresh(), 0, 0, LONGEST_RULE);
        t.answer("ruleText(0, 0, 24) of 24", y.ruleText(0, 0, 24), -5);
    }

    // ---- promise 8

    static void promise08AllKinds(Sentence t) {
        t.says("kind: 0 to 2");
        BoundaryAnalyzer x = Make.with("aaaa");
        for (int kind = 0; kind < 3; kind++) {
            Make.ruled(x, kind, 0, "A".repeat(kind + 1));
        }
        for (int kind = 0; kind < 3; kind++) {
            t.answer("matchLength(" + kind + ", 0, 0)", x.matchLength(kind, 0, 0), kind + 1);
        }
    }

    static void promise08AllPlaces(Sentence t) {
        t.says("place: 0 to 4");
        BoundaryAnalyzer x = Make.with("aaaaaa");
        for (int place = 0; place < 5; place++) {
            Make.ruled(x, 1, place, "A".repeat(place + 1));
        }
        for (int place = 0; place < 5; place++) {
            t.answer("matchLength(1, " + place + ", 0)", x.matchLength(1, place, 0), place + 1);
        }
    }

    static void promise08TheFirstAndLastPosition(Sentence t) {
        t.says("position: 0 to the length of the text");
        BoundaryAnalyzer x = Make.ruled(Make.with("aaa"), 1, 1, "A+");
        t.answer("matchLength(1, 1, 0)", x.matchLength(1, 1, 0), 3);
        t.answer("matchLength(1, 1, 2)", x.matchLength(1, 1, 2), 1);
        t.answer("matchLength(1, 1, 3), the length", x.matchLength(1, 1, 3), 0);
        BoundaryAnalyzer empty = Make.ruled(Make.fresh(), 1, 1, "A*");
        t.answer("matchLength(1, 1, 0) of the empty text", empty.matchLength(1, 1, 0), 0);
        BoundaryAnalyzer full = Make.ruled(Make.with("a".repeat(100)), 1, 1, "A*");
        t.answer("matchLength(1, 1, 0) of a full text", full.matchLength(1, 1, 0), 100);
        t.answer("matchLength(1, 1, 99) of a full text", full.matchLength(1, 1, 99), 1);
        t.answer("matchLength(1, 1, 100) of a full text", full.matchLength(1, 1, 100), 0);
    }

    static void promise08TheLengthAtAPositionWithinASegment(Sentence t) {
        t.says("Returns the length of the rule at the position");
        BoundaryAnalyzer x = Make.ruled(Make.ruled(Make.with("abc 12"), 0, 0, "A+"), 0, 1, "A+C");
        t.answer("matchLength(0, 0, 0)", x.matchLength(0, 0, 0), 3);
        t.answer("matchLength(0, 0, 1), no boundary", x.matchLength(0, 0, 1), 2);
        t.answer("matchLength(0, 1, 1), the other rule", x.matchLength(0, 1, 1), 3);
        t.answer("matchLength(0, 0, 4), no match", x.matchLength(0, 0, 4), 0);
    }

    static void promise08AKindOrPlaceTooSmallOrTooLarge(Sentence t) {
        t.says("BAD_VALUE");
        for (int position : new int[] {0, -1, 99}) {
            for (int kind : BAD_KINDS) {
                t.unchanged("matchLength(" + kind + ", 0, " + position + ")", -2, x -> busy(x, "A"),
                        x -> x.matchLength(kind, 0, position));
            }
            for (int place : BAD_PLACES) {
                t.unchanged("matchLength(0, " + place + ", " + position + ")", -2, x -> busy(x, "A"),
                        x -> x.matchLength(0, place, position));
            }
        }
    }

    static void promise08APositionTooSmallOrTooLarge(Sentence t) {
        t.says("NO_SUCH_POSITION");
        for (int position : new int[] {-1, BUSY_LENGTH + 1, LOW, HIGH}) {
            t.unchanged("matchLength(0, 0, " + position + ")", -1, x -> busy(x, "A"), x -> x.matchLength(0, 0, position));
            t.unchanged("matchLength(0, 3, " + position + "), no rule", -1, x -> busy(x, "A"),
                    x -> x.matchLength(0, 3, position));
        }
    }

    static void promise08NoRule(Sentence t) {
        t.says("NONE if there is no rule");
        for (int position : new int[] {0, BUSY_LENGTH}) {
            t.unchanged("matchLength(0, 3, " + position + ")", -5, x -> busy(x, "A"), x -> x.matchLength(0, 3, position));
        }
        BoundaryAnalyzer y = Make.ruled(Make.with("a"), 0, 0, "A");
        Make.typed(y, "").setRule(0, 0);
        t.answer("matchLength(0, 0, 0) of a removed one", y.matchLength(0, 0, 0), -5);
    }

    // ---- promise 9

    static void promise09APatternBecomesAnException(Sentence t) {
        t.says("Adds the pattern, which stays, as a word to the exceptions");
        BoundaryAnalyzer x = Make.excepting(Make.with("Dr.N"), "Dr");
        t.same("boundaries", Make.states(x, 2), "11121");
        t.answer("length of the pattern", x.value(1), 2);
        t.answer("type behind it", x.type('s'), 3);
        t.answer("the pattern, now longer, is another one", x.addException(), 2);
        t.same("the first one is as before", Make.states(x, 2), "11121");
    }

    static void promise09NothingIsAnalysed(Sentence t) {
        t.says("Nothing is analysed anew");
        BoundaryAnalyzer x = Make.ruled(Make.with("Dr. No."), 2, 0, "A+D?C*");
        Make.append(x, " ");
        t.same("works before", Make.works(x), "1 1 1");
        Make.excepting(x, "Dr");
        t.same("works then", Make.works(x), "1 1 1");
        t.same("boundaries", Make.states(x, 2), "100020001");
    }

    static void promise09TheNumberIsAnswered(Sentence t) {
        t.says("Returns the number of exceptions then");
        BoundaryAnalyzer x = Make.fresh();
        for (int number = 1; number <= 10; number++) {
            t.answer("addException()", Make.typed(x, TEN_WORDS.substring(number - 1, number)).addException(), number);
            t.answer("value(2)", x.value(2), number);
        }
    }

    static void promise09TheEmptyPattern(Sentence t) {
        t.says("BAD_VALUE if the pattern is not a sequence of 1 to 8 characters of the codes 32 to 126");
        t.unchanged("addException()", -2, x -> busy(x, ""), x -> x.addException());
    }

    static void promise09AWordTooLong(Sentence t) {
        t.says("BAD_VALUE if the pattern is not a sequence of 1 to 8 characters of the codes 32 to 126");
        t.unchanged("addException() of 9", -2, x -> busy(x, "ABCDEFGHI"), x -> x.addException());
        t.unchanged("addException() of 24", -2, x -> busy(x, LONGEST_RULE), x -> x.addException());
    }

    static void promise09AWordOf1And8(Sentence t) {
        t.says("BAD_VALUE if the pattern is not a sequence of 1 to 8 characters of the codes 32 to 126");
        BoundaryAnalyzer x = Make.with("x.abcdefgh.y");
        t.answer("addException() of 1", Make.typed(x, "x").addException(), 1);
        t.answer("addException() of 8", Make.typed(x, "abcdefgh").addException(), 2);
        t.same("boundaries", Make.states(x, 2), "1121111111121");
    }

    static void promise09CodesTooSmallOrTooLarge(Sentence t) {
        t.says("BAD_VALUE if the pattern is not a sequence of 1 to 8 characters of the codes 32 to 126");
        for (char code : BAD_CODES) {
            String name = "addException() with " + (int) code;
            t.unchanged(name + " alone", -2, x -> busy(x, "" + code), x -> x.addException());
            t.unchanged(name + " first", -2, x -> busy(x, code + "AAAAAAA"), x -> x.addException());
            t.unchanged(name + " last", -2, x -> busy(x, "AAAAAAA" + code), x -> x.addException());
        }
    }

    static void promise09TheFirstAndLastCode(Sentence t) {
        t.says("BAD_VALUE if the pattern is not a sequence of 1 to 8 characters of the codes 32 to 126");
        BoundaryAnalyzer x = Make.fresh();
        t.answer("addException() of code 32", Make.typed(x, " ").addException(), 1);
        t.answer("addException() of code 126", Make.typed(x, "~").addException(), 2);
    }

    static void promise09AWordThatIsThere(Sentence t) {
        t.says("NOT_NEW");
        t.unchanged("addException(), the first one", -4, x -> busy(x, "Dr"), x -> x.addException());
        t.unchanged("addException(), the last one", -4, x -> busy(x, "No"), x -> x.addException());
        t.answer("addException(), a longer one", busy(Make.fresh(), "Drs").addException(), 3);
        t.answer("addException(), a shorter one", busy(Make.fresh(), "D").addException(), 3);
        t.answer("addException(), in small letters", busy(Make.fresh(), "dr").addException(), 3);
    }

    static void promise09AWordThatIsThereAmongTen(Sentence t) {
        t.says("NOT_NEW");
        for (int i = 0; i < TEN_WORDS.length(); i++) {
            String word = TEN_WORDS.substring(i, i + 1);
            t.unchanged("addException() of " + word, -4, x -> tenExceptions(x, word), x -> x.addException());
        }
    }

    static void promise09NoMoreRoom(Sentence t) {
        t.says("FULL if there are 10");
        t.unchanged("addException() of an 11th", -3, x -> tenExceptions(x, "A"), x -> x.addException());
        t.unchanged("addException(), full and too long", -2, x -> tenExceptions(x, "AAAAAAAAA"), x -> x.addException());
        t.unchanged("addException(), full and empty", -2, x -> tenExceptions(x, ""), x -> x.addException());
        BoundaryAnalyzer y = tenExceptions(Make.fresh(), "e");
        t.answer("removeException()", y.removeException(), 9);
        t.answer("addException(), with room again", Make.typed(y, "A").addException(), 10);
        t.answer("addException(), full again", Make.typed(y, "B").addException(), -3);
    }

    // ---- promise 10

    static void promise10AnExceptionIsRemoved(Sentence t) {
        t.says("Removes the pattern, which stays, from the exceptions");
        BoundaryAnalyzer x = Make.excepting(Make.excepting(Make.with("Dr.No.x"), "Dr"), "No");
        t.same("boundaries before", Make.states(x, 2), "11121121");
        Make.typed(x, "Dr").removeException();
        t.same("boundaries then", Make.states(x, 2), "11111121");
        t.answer("length of the pattern", x.value(1), 2);
        t.answer("the pattern can be added again", x.addException(), 2);
        t.same("boundaries with it", Make.states(x, 2), "11121121");
    }

    static void promise10NothingIsAnalysed(Sentence t) {
        t.says("Removes the pattern, which stays, from the exceptions");
        BoundaryAnalyzer x = Make.excepting(Make.with("Dr. No"), "Dr");
        t.same("works before", Make.works(x), "1 1 1");
        x.removeException();
        t.same("works then", Make.works(x), "1 1 1");
    }

    static void promise10TheNumberIsAnswered(Sentence t) {
        t.says("Returns the number of exceptions then");
        for (String order : new String[] {"abcdefghij", "jihgfedcba", "ebgaicjdfh"}) {
            BoundaryAnalyzer x = tenExceptions(Make.fresh(), "");
            for (int number = 9; number >= 0; number--) {
                String word = order.substring(9 - number, 10 - number);
                t.answer("removeException() of " + word, Make.typed(x, word).removeException(), number);
                t.answer("value(2)", x.value(2), number);
                t.answer("removeException() of it again", x.removeException(), -5);
            }
        }
    }

    static void promise10NoException(Sentence t) {
        t.says("NONE if it is none");
        String[] patterns = {"", "D", "Drs", "dr", "rD", "DrNo", "AAAAAAAAA", LONGEST_RULE, "D\u0000", "\uffff"};
        for (String pattern : patterns) {
            t.unchanged("removeException() of '" + pattern + "'", -5, x -> busy(x, pattern), x -> x.removeException());
        }
    }

    static void promise10NoExceptionsAtAll(Sentence t) {
        t.says("NONE if it is none");
        for (String pattern : new String[] {"", "Dr"}) {
            t.unchanged("removeException()", -5, x -> Make.typed(x, pattern), x -> x.removeException());
        }
    }

    // ---- objects

    static final int[] BAD_KINDS = {-1, 3, 256, LOW, HIGH};
    static final int[] BAD_PLACES = {-1, 5, 256, LOW, HIGH};
    /** 0x120 and 0x161 would be a blank and an "a" if only their low bytes were looked at. */
    static final char[] BAD_CODES = {0, 31, 127, 128, 255, 256, 0x120, 0x161, 0xffff};
    static final int BUSY_LENGTH = 12;

    /** An object in which all there is is in use; its text has 12 characters, and an edit can be redone. */
    static BoundaryAnalyzer busy(BoundaryAnalyzer x, String pattern) {
        x.setClass('#', 0);
        x.setClass('_', 2);
        Make.ruled(x, 0, 0, "A+");
        Make.ruled(x, 1, 4, "(A|B)+/C");
        Make.ruled(x, 2, 2, "A+D?C*");
        Make.excepting(Make.excepting(x, "Dr"), "No");
        Make.append(x, "Dr. No. #1_x");
        x.erase(3, 2);
        x.undo();
        return Make.typed(x, pattern);
    }

    private static BoundaryAnalyzer tenExceptions(BoundaryAnalyzer x, String pattern) {
        Make.append(x, "a. j. k. b");
        for (int i = 0; i < TEN_WORDS.length(); i++) {
            Make.excepting(x, TEN_WORDS.substring(i, i + 1));
        }
        return Make.typed(x, pattern);
    }
}
