/** Tests of single sentences: the text, its edits and their history (promises 11 to 16). */
final class SentencesOnText {
    private static final int LOW = Integer.MIN_VALUE;
    private static final int HIGH = Integer.MAX_VALUE;

    private SentencesOnText() {}

    // ---- promise 11

    static void promise11ACharacterIsInserted(Sentence t) {
        t.says("Inserts a character into the text");
        BoundaryAnalyzer x = Make.with("bd");
        x.insert(1, 'c');
        t.same("between", Make.text(x), "bcd");
        x.insert(0, 'a');
        t.same("at the beginning", Make.text(x), "abcd");
        x.insert(4, 'e');
        t.same("at the end", Make.text(x), "abcde");
    }

    static void promise11AnInsertionIsAnEdit(Sentence t) {
        t.says("This is an edit");
        BoundaryAnalyzer x = Make.ruled(Make.with("ab cd"), 1, 0, "A+");
        x.insert(3, 'x');
        t.answer("edits to be undone", x.value(3), 6);
        t.same("works", Make.works(x), "1 1 1");
        t.same("boundaries", Make.states(x, 1), "1011001");
        x.undo();
        t.same("undone", Make.text(x), "ab cd");
    }

    static void promise11TheFirstAndLastPosition(Sentence t) {
        t.says("position: 0 to the length of the text");
        BoundaryAnalyzer x = Make.fresh();
        t.answer("insert(0), into the empty text", x.insert(0, 'b'), 1);
        t.answer("insert(0), before", x.insert(0, 'a'), 2);
        t.answer("insert(2), the length", x.insert(2, 'c'), 3);
        t.same("the text", Make.text(x), "abc");
    }

    static void promise11TheFirstAndLastCharacter(Sentence t) {
        t.says("character: code 32 to 126");
        BoundaryAnalyzer x = Make.fresh();
        for (char code = 32; code <= 126; code++) {
            t.answer("insert(0, " + (int) code + ")", x.insert(0, code), code - 31);
        }
        t.answer("charAt(0), the last one", x.charAt(0), 126);
        t.answer("charAt(94), the first one", x.charAt(94), 32);
    }

    static void promise11TheLengthIsAnswered(Sentence t) {
        t.says("Returns the length of the text then");
        BoundaryAnalyzer x = Make.fresh();
        for (int length = 1; length <= 100; length++) {
            t.answer("insert", x.insert(length / 2, 'a'), length);
            t.answer("value(0)", x.value(0), length);
        }
    }

    static void promise11APositionTooSmallOrTooLarge(Sentence t) {
        t.says("NO_SUCH_POSITION");
        for (int position : new int[] {-1, SentencesOnRules.BUSY_LENGTH + 1, 100, 101, LOW, HIGH}) {
            String call = "insert(" + position + ", ";
            t.unchanged(call + "'a')", -1, x -> busy(x), x -> x.insert(position, 'a'));
            t.unchanged(call + "31)", -1, x -> busy(x), x -> x.insert(position, (char) 31));
        }
        t.unchanged("insert(1, 'a') into the empty text", -1, x -> x.value(0), x -> x.insert(1, 'a'));
    }

    static void promise11ACharacterTooSmallOrTooLarge(Sentence t) {
        t.says("BAD_VALUE");
        for (char code : SentencesOnRules.BAD_CODES) {
            t.unchanged("insert(0, " + (int) code + ")", -2, x -> busy(x), x -> x.insert(0, code));
            t.unchanged("insert(12, " + (int) code + ")", -2, x -> busy(x), x -> x.insert(12, code));
        }
    }

    static void promise11TheFullText(Sentence t) {
        t.says("FULL if it has 100 characters");
        for (int position : new int[] {0, 50, 99, 100}) {
            t.unchanged("insert(" + position + ", 'a')", -3, x -> full(x), x -> x.insert(position, 'a'));
            t.unchanged("insert(" + position + ", 'a'), with an edit to redo", -3, SentencesOnText::fullAgain,
                    x -> x.insert(position, 'a'));
        }
        BoundaryAnalyzer y = Make.with("a".repeat(99));
        t.answer("insert of the 100th", y.insert(99, 'b'), 100);
        t.answer("insert of the 101st", y.insert(100, 'c'), -3);
        t.answer("erase(0, 1)", y.erase(0, 1), 99);
        t.answer("insert, with room again", y.insert(99, 'c'), 100);
    }

    static void promise11TheHundredthCharacterIsAnalysed(Sentence t) {
        t.says("FULL if it has 100 characters");
        BoundaryAnalyzer x = Make.ruled(Make.with("aaa 1 bb ".repeat(11)), 1, 0, "A+");
        t.answer("insert of the 100th, at the beginning", x.insert(0, ' '), 100);
        t.same("boundaries", Make.states(x, 1), "1" + "100111101".repeat(11) + "1");
        t.same("works", Make.works(x), "1 1 1");
        x.undo();
        t.same("boundaries with it undone", Make.states(x, 1), "100111101".repeat(11) + "1");
        x.insert(2, ' ');
        t.same("boundaries with it in a word", Make.states(x, 1), "1011" + "111101" + "100111101".repeat(10) + "1");
    }

    static void promise11TheFullTextAndAnotherError(Sentence t) {
        t.says("NO_SUCH_POSITION; BAD_VALUE; FULL if it has 100 characters");
        t.unchanged("insert(101, 'a')", -1, x -> full(x), x -> x.insert(101, 'a'));
        t.unchanged("insert(-1, 31)", -1, x -> full(x), x -> x.insert(-1, (char) 31));
        t.unchanged("insert(100, 31)", -2, x -> full(x), x -> x.insert(100, (char) 31));
        t.unchanged("insert(0, 127)", -2, x -> full(x), x -> x.insert(0, (char) 127));
    }

    // ---- promise 12

    static void promise12CharactersAreErased(Sentence t) {
        t.says("Erases characters");
        BoundaryAnalyzer x = Make.with("abcdefgh");
        x.erase(2, 3);
        t.same("within", Make.text(x), "abfgh");
        x.erase(0, 1);
        t.same("at the beginning", Make.text(x), "bfgh");
        x.erase(2, 2);
        t.same("at the end", Make.text(x), "bf");
    }

    static void promise12AnErasureIsAnEdit(Sentence t) {
        t.says("This is an edit");
        BoundaryAnalyzer x = Make.ruled(Make.with("ab cd"), 1, 0, "A+");
        x.erase(2, 1);
        t.answer("edits to be undone, one for all characters", x.value(3), 6);
        t.same("works", Make.works(x), "0 1 0");
        t.same("boundaries", Make.states(x, 1), "10001");
        x.undo();
        t.same("undone", Make.text(x), "ab cd");
    }

    static void promise12TheFirstAndLastPosition(Sentence t) {
        t.says("position: position of the first one");
        BoundaryAnalyzer x = Make.with("abc");
        t.answer("erase(2, 1), the last character", x.erase(2, 1), 2);
        t.answer("erase(0, 1), the first character", x.erase(0, 1), 1);
        t.same("the text", Make.text(x), "b");
    }

    static void promise12AsManyAsThereAre(Sentence t) {
        t.says("n: how many, at least 1");
        BoundaryAnalyzer x = Make.with("abcd");
        t.answer("erase(1, 1), the least", x.erase(1, 1), 3);
        t.answer("erase(1, 2), all from there on", x.erase(1, 2), 1);
        t.answer("erase(0, 1), all", x.erase(0, 1), 0);
        BoundaryAnalyzer y = Make.with("a".repeat(100));
        t.answer("erase(0, 100), all of a full text", y.erase(0, 100), 0);
        t.same("boundaries of the empty text", Make.states(y, 0) + Make.states(y, 1) + Make.states(y, 2), "111");
    }

    static void promise12FromAFullText(Sentence t) {
        t.says("Erases characters");
        BoundaryAnalyzer x = Make.ruled(Make.with("aaa 1 bbcc".repeat(10)), 1, 0, "A+");
        t.same("boundaries", Make.states(x, 1), "1001111000" + "0001111000".repeat(9) + "1");
        x.erase(3, 1);
        t.same("boundaries with a blank erased", Make.states(x, 1), "100111000" + "0001111000".repeat(9) + "1");
        t.same("works", Make.works(x), "0 1 0");
        x.undo();
        t.same("boundaries with it undone", Make.states(x, 1), "1001111000" + "0001111000".repeat(9) + "1");
        x.erase(5, 90);
        t.same("the text with 90 erased", Make.text(x), "aaa 1 bbcc");
        t.same("boundaries with 90 erased", Make.states(x, 1), "10011110001");
        x.undo();
        t.same("boundaries with that undone", Make.states(x, 1), "1001111000" + "0001111000".repeat(9) + "1");
    }

    static void promise12TheLengthIsAnswered(Sentence t) {
        t.says("Returns the length of the text then");
        BoundaryAnalyzer x = Make.with("a".repeat(100));
        for (int length = 99; length >= 0; length--) {
            t.answer("erase", x.erase(length / 2, 1), length);
            t.answer("value(0)", x.value(0), length);
        }
    }

    static void promise12APositionTooSmallOrTooLarge(Sentence t) {
        t.says("NO_SUCH_POSITION if there is no character at the position");
        for (int position : new int[] {-1, SentencesOnRules.BUSY_LENGTH, SentencesOnRules.BUSY_LENGTH + 1, LOW, HIGH}) {
            for (int n : new int[] {1, 0, -1, LOW, HIGH}) {
                t.unchanged("erase(" + position + ", " + n + ")", -1, x -> busy(x), x -> x.erase(position, n));
            }
        }
    }

    static void promise12TheEmptyText(Sentence t) {
        t.says("NO_SUCH_POSITION if there is no character at the position");
        t.unchanged("erase(0, 1)", -1, x -> x.value(0), x -> x.erase(0, 1));
        t.unchanged("erase(0, 0)", -1, x -> x.value(0), x -> x.erase(0, 0));
    }

    static void promise12LessThanOne(Sentence t) {
        t.says("BAD_VALUE if n is less than 1, or there are not so many characters from there on");
        for (int position : new int[] {0, 5, 11}) {
            for (int n : new int[] {0, -1, LOW}) {
                t.unchanged("erase(" + position + ", " + n + ")", -2, x -> busy(x), x -> x.erase(position, n));
            }
        }
    }

    static void promise12MoreThanThereAre(Sentence t) {
        t.says("BAD_VALUE if n is less than 1, or there are not so many characters from there on");
        for (int[] call : new int[][] {{0, 13}, {5, 8}, {11, 2}, {11, HIGH}, {0, HIGH}, {1, HIGH}}) {
            t.unchanged("erase(" + call[0] + ", " + call[1] + ")", -2, x -> busy(x), x -> x.erase(call[0], call[1]));
        }
        t.unchanged("erase(0, 101) of a full text", -2, x -> full(x), x -> x.erase(0, 101));
    }

    // ---- promise 13

    static void promise13TheLatestEditIsUndone(Sentence t) {
        t.says("Undoes the latest edit that has not been undone, by an edit that takes it back (with its work; "
                + "several characters that were erased are inserted by one edit)");
        BoundaryAnalyzer x = Make.with("ab");
        x.insert(0, 'c');
        x.erase(1, 1);
        t.same("the text", Make.text(x), "cb");
        x.undo();
        t.same("the erasure undone", Make.text(x), "cab");
        x.undo();
        t.same("the insertion before it undone", Make.text(x), "ab");
        x.undo();
        t.same("the insertion before that undone", Make.text(x), "a");
    }

    static void promise13WhatWasRedoneIsTheLatest(Sentence t) {
        t.says("Undoes the latest edit that has not been undone");
        BoundaryAnalyzer x = Make.with("abc");
        x.undo();
        x.undo();
        x.redo();
        t.same("undone twice and redone", Make.text(x), "ab");
        x.undo();
        t.same("what was redone is undone", Make.text(x), "a");
    }

    static void promise13UndoingHasItsWork(Sentence t) {
        t.says("by an edit that takes it back (with its work;");
        BoundaryAnalyzer x = Make.ruled(Make.with("ab cd"), 1, 0, "A+");
        x.insert(4, ' ');
        t.same("works of the insertion", Make.works(x), "1 3 1");
        x.undo();
        t.same("works of undoing it", Make.works(x), "0 1 0");
        t.same("boundaries", Make.states(x, 1), "101101");
    }

    static void promise13ErasedCharactersComeBackByOneEdit(Sentence t) {
        t.says("several characters that were erased are inserted by one edit");
        BoundaryAnalyzer x = Make.ruled(Make.with("ab cd ef"), 1, 0, "A+");
        x.erase(2, 4);
        t.same("works of the erasure", Make.works(x), "0 1 0");
        t.answer("undo()", x.undo(), 8);
        t.same("works of undoing it", Make.works(x), "4 5 4");
        t.same("the text", Make.text(x), "ab cd ef");
        t.same("boundaries", Make.states(x, 1), "101101101");
        t.answer("edits to be redone", x.value(4), 1);
    }

    static void promise13AWholeFullTextComesBack(Sentence t) {
        t.says("several characters that were erased are inserted by one edit");
        String all = "ab cd. 1 2".repeat(10);
        BoundaryAnalyzer x = Make.with(all);
        x.erase(0, 100);
        t.answer("undo()", x.undo(), 29);
        t.same("the text", Make.text(x), all);
        t.same("works", Make.works(x), "100 100 100");
    }

    static void promise13UndoTakesBackNothingElse(Sentence t) {
        t.says("Undoes the latest edit that has not been undone");
        BoundaryAnalyzer x = Make.with("ab");
        x.setClass('a', 5);
        Make.excepting(Make.ruled(x, 0, 0, "F"), "w");
        x.undo();
        t.same("the text", Make.text(x), "a");
        t.answer("classOf('a')", x.classOf('a'), 5);
        t.same("the rule", Make.rule(x, 0, 0), "F");
        t.answer("number of exceptions", x.value(2), 1);
        t.answer("length of the pattern", x.value(1), 1);
    }

    static void promise13TheHistoryIsFull(Sentence t) {
        t.says("A history of at most 30 edits is kept, of those by insert(), erase() and redo()");
        BoundaryAnalyzer x = Make.fresh();
        for (int i = 1; i <= 29; i++) {
            x.insert(0, 'a');
            t.answer("edits to be undone", x.value(3), i);
        }
        x.erase(3, 5);
        t.answer("edits to be undone, with the 30th", x.value(3), 30);
        x.insert(0, 'a');
        t.answer("edits to be undone, with the 31st, an insertion", x.value(3), 30);
        x.erase(0, 1);
        t.answer("edits to be undone, with the 32nd, an erasure", x.value(3), 30);
        for (int i = 29; i >= 0; i--) {
            t.answer("undo()", x.undo(), i);
        }
        t.answer("undo(), the 31st", x.undo(), -5);
    }

    static void promise13WhatIsRedoneIsKept(Sentence t) {
        t.says("A history of at most 30 edits is kept, of those by insert(), erase() and redo()");
        BoundaryAnalyzer x = Make.with("abc");
        x.undo();
        x.undo();
        t.answer("edits to be undone", x.value(3), 1);
        x.redo();
        t.answer("edits to be undone, with one redone", x.value(3), 2);
        x.redo();
        t.answer("edits to be undone, with two redone", x.value(3), 3);
    }

    static void promise13AFullHistoryIsRedone(Sentence t) {
        t.says("A history of at most 30 edits is kept, of those by insert(), erase() and redo()");
        BoundaryAnalyzer x = letters(35);
        for (int i = 0; i < 30; i++) {
            x.undo();
        }
        t.same("all that is kept undone", Make.text(x), "ABCDE");
        t.answer("edits to be redone", x.value(4), 30);
        for (int i = 0; i < 30; i++) {
            x.redo();
        }
        t.same("and redone", Make.text(x), letterText(35));
        t.answer("edits to be undone", x.value(3), 30);
        for (int i = 0; i < 30; i++) {
            x.undo();
        }
        t.same("and undone again", Make.text(x), "ABCDE");
        t.answer("undo(), one more", x.undo(), -5);
    }

    static void promise13TheOldestIsDropped(Sentence t) {
        t.says("when one more is carried out, the oldest one is dropped");
        for (int count : new int[] {30, 31, 32, 60, 61, 75}) {
            BoundaryAnalyzer x = letters(count);
            for (int i = 0; i < 30; i++) {
                x.undo();
            }
            t.same("30 of " + count + " undone", Make.text(x), letterText(count - 30));
            t.answer("undo(), one more", x.undo(), -5);
            t.answer("length of the text then", x.value(0), count - 30);
        }
    }

    static void promise13TheOldestIsDroppedOnceOnly(Sentence t) {
        t.says("when one more is carried out, the oldest one is dropped");
        BoundaryAnalyzer x = letters(31);
        x.undo();
        x.redo();
        t.answer("edits to be undone, with one redone", x.value(3), 30);
        x.undo();
        x.insert(30, 'z');
        t.answer("edits to be undone, with another one in its place", x.value(3), 30);
        for (int i = 0; i < 30; i++) {
            x.undo();
        }
        t.same("all undone", Make.text(x), "A");
    }

    static void promise13UndoTakesTheLatestOut(Sentence t) {
        t.says("undo() takes the latest one out of it");
        BoundaryAnalyzer x = Make.with("abc");
        x.undo();
        t.answer("edits to be undone", x.value(3), 2);
        t.answer("edits to be redone", x.value(4), 1);
        x.insert(2, 'x');
        t.answer("edits to be undone, with another one", x.value(3), 3);
        x.undo();
        x.undo();
        t.same("two undone", Make.text(x), "a");
    }

    static void promise13AnInsertionEndsRedoing(Sentence t) {
        t.says("An edit by insert() or erase() ends the possibility to redo what was undone");
        BoundaryAnalyzer x = Make.with("abc");
        x.undo();
        x.undo();
        x.insert(0, 'x');
        t.answer("edits to be redone", x.value(4), 0);
        t.answer("redo()", x.redo(), -5);
        t.same("the text", Make.text(x), "xa");
        x.undo();
        t.answer("edits to be redone, the insertion alone", x.value(4), 1);
        x.redo();
        t.same("the text with it", Make.text(x), "xa");
    }

    static void promise13AnErasureEndsRedoing(Sentence t) {
        t.says("An edit by insert() or erase() ends the possibility to redo what was undone");
        BoundaryAnalyzer x = Make.with("abc");
        x.undo();
        x.erase(0, 1);
        t.answer("edits to be redone", x.value(4), 0);
        t.answer("redo()", x.redo(), -5);
        t.same("the text", Make.text(x), "b");
        x.undo();
        t.answer("edits to be redone, the erasure alone", x.value(4), 1);
    }

    static void promise13OtherCallsEndNoRedoing(Sentence t) {
        t.says("An edit by insert() or erase() ends the possibility to redo what was undone");
        BoundaryAnalyzer x = Make.with("abc");
        x.undo();
        x.undo();
        x.setClass('a', 4);
        Make.excepting(Make.ruled(x, 2, 0, "A"), "w");
        x.removeException();
        x.insert(9, 'a');
        x.insert(0, (char) 9);
        x.erase(0, 0);
        x.erase(5, 1);
        t.answer("edits to be redone", x.value(4), 2);
        t.answer("redo()", x.redo(), 1);
        t.answer("edits to be redone, redo() ends nothing", x.value(4), 1);
        t.answer("redo()", x.redo(), 0);
        t.same("the text", Make.text(x), "abc");
    }

    static void promise13TheNumberIsAnswered(Sentence t) {
        t.says("Returns the number of edits that can still be undone");
        BoundaryAnalyzer x = Make.with("abc");
        for (int left = 2; left >= 0; left--) {
            t.answer("undo()", x.undo(), left);
            t.answer("value(3)", x.value(3), left);
        }
    }

    static void promise13NothingToUndo(Sentence t) {
        t.says("NONE if there is none");
        t.unchanged("undo() at first", -5, x -> x.value(0), x -> x.undo());
        t.unchanged("undo() with all undone", -5, SentencesOnText::allUndone, x -> x.undo());
        t.unchanged("undo() with all that is kept undone", -5, SentencesOnText::keptUndone, x -> x.undo());
    }

    // ---- promise 14

    static void promise14TheEditUndoneLast(Sentence t) {
        t.says("Carries out again the edit that was undone last (with its work)");
        BoundaryAnalyzer x = Make.with("abcd");
        x.erase(1, 2);
        x.undo();
        x.undo();
        x.redo();
        t.same("an insertion redone", Make.text(x), "abcd");
        x.redo();
        t.same("an erasure of two redone", Make.text(x), "ad");
    }

    static void promise14RedoingHasItsWork(Sentence t) {
        t.says("Carries out again the edit that was undone last (with its work)");
        BoundaryAnalyzer x = Make.ruled(Make.with("ab cd ef"), 1, 0, "A+");
        x.insert(4, ' ');
        x.erase(2, 5);
        t.same("works of the erasure", Make.works(x), "0 1 0");
        x.undo();
        t.same("works of undoing it", Make.works(x), "5 7 5");
        x.undo();
        t.same("works of undoing the insertion", Make.works(x), "0 1 0");
        x.redo();
        t.same("works of redoing the insertion", Make.works(x), "1 3 1");
        x.redo();
        t.same("works of redoing the erasure", Make.works(x), "0 1 0");
        t.same("boundaries", Make.states(x, 1), "10001");
    }

    static void promise14RedoingGoesByTheRulesOfNow(Sentence t) {
        t.says("Carries out again the edit that was undone last (with its work)");
        BoundaryAnalyzer x = Make.with("ab");
        x.undo();
        Make.ruled(x, 1, 0, "A+");
        x.setClass('b', 1);
        x.redo();
        t.same("boundaries", Make.states(x, 1), "111");
        t.same("works", Make.works(x), "1 2 1");
    }

    static void promise14AFullTextIsRedone(Sentence t) {
        t.says("Carries out again the edit that was undone last (with its work)");
        BoundaryAnalyzer x = full(Make.fresh());
        x.undo();
        t.answer("length with one undone", x.value(0), 99);
        t.answer("redo()", x.redo(), 0);
        t.answer("length with it redone", x.value(0), 100);
        x.erase(0, 100);
        x.undo();
        t.answer("redo() of an erasure of all", x.redo(), 0);
        t.answer("length then", x.value(0), 0);
    }

    static void promise14TheNumberIsAnswered(Sentence t) {
        t.says("Returns the number of edits that can still be redone");
        BoundaryAnalyzer x = letters(30);
        for (int i = 0; i < 30; i++) {
            x.undo();
        }
        for (int left = 29; left >= 0; left--) {
            t.answer("redo()", x.redo(), left);
            t.answer("value(4)", x.value(4), left);
        }
    }

    static void promise14NothingToRedo(Sentence t) {
        t.says("NONE if there is none");
        t.unchanged("redo() at first", -5, x -> x.value(0), x -> x.redo());
        t.unchanged("redo() with nothing undone", -5, x -> Make.append(x, "Dr. No"), x -> x.redo());
        t.unchanged("redo() with all redone", -5, SentencesOnText::redone, x -> x.redo());
        t.unchanged("redo() behind an insertion", -5, SentencesOnText::insertedBehindUndo, x -> x.redo());
        t.unchanged("redo() with a full history", -5, SentencesOnText::full, x -> x.redo());
    }

    // ---- promise 15

    static void promise15TheFirstAndLastPosition(Sentence t) {
        t.says("position: position of a character");
        BoundaryAnalyzer x = Make.with("a" + "b".repeat(98) + "c");
        t.answer("charAt(0)", x.charAt(0), 'a');
        t.answer("charAt(98)", x.charAt(98), 'b');
        t.answer("charAt(99)", x.charAt(99), 'c');
    }

    static void promise15TheCharacterAsAnInt(Sentence t) {
        t.says("Returns the character as an int");
        BoundaryAnalyzer x = Make.fresh();
        for (char code = 32; code <= 126; code++) {
            x.insert(code - 32, code);
        }
        for (char code = 32; code <= 126; code++) {
            t.answer("charAt(" + (code - 32) + ")", x.charAt(code - 32), code);
        }
    }

    static void promise15APositionTooSmallOrTooLarge(Sentence t) {
        t.says("NO_SUCH_POSITION");
        for (int position : new int[] {-1, SentencesOnRules.BUSY_LENGTH, 99, 100, LOW, HIGH}) {
            t.unchanged("charAt(" + position + ")", -1, x -> busy(x), x -> x.charAt(position));
        }
        t.unchanged("charAt(100) of a full text", -1, x -> full(x), x -> x.charAt(100));
    }

    static void promise15TheEmptyText(Sentence t) {
        t.says("NO_SUCH_POSITION");
        t.unchanged("charAt(0) at first", -1, x -> x.value(0), x -> x.charAt(0));
        t.unchanged("charAt(0) with all undone", -1, SentencesOnText::allUndone, x -> x.charAt(0));
    }

    // ---- promise 16

    static void promise16EachWhat(Sentence t) {
        t.says("what: 0 for the length of the text, 1 for the length of the pattern, 2 for the number of exceptions, "
                + "3 for the number of edits that can be undone, 4 for those that can be redone");
        BoundaryAnalyzer x = Make.with("abcdefg");
        Make.excepting(Make.excepting(Make.excepting(x, "u"), "v"), "w");
        Make.typed(x, "ABCDE");
        x.erase(0, 1);
        x.undo();
        x.undo();
        t.answer("value(0)", x.value(0), 6);
        t.answer("value(1)", x.value(1), 5);
        t.answer("value(2)", x.value(2), 3);
        t.answer("value(3)", x.value(3), 6);
        t.answer("value(4)", x.value(4), 2);
    }

    static void promise16TheLeastAndTheGreatestNumbers(Sentence t) {
        t.says("Returns the number");
        for (int what = 0; what < 5; what++) {
            t.answer("value(" + what + ") at first", Make.fresh().value(what), 0);
        }
        BoundaryAnalyzer x = full(Make.fresh());
        Make.typed(x, "A".repeat(24));
        t.answer("value(0), a full text", x.value(0), 100);
        t.answer("value(1), a full pattern", x.value(1), 24);
        t.answer("value(3), a full history", x.value(3), 30);
        for (int i = 0; i < 30; i++) {
            x.undo();
        }
        t.answer("value(3), all undone", x.value(3), 0);
        t.answer("value(4), all undone", x.value(4), 30);
        for (int i = 0; i < 10; i++) {
            Make.excepting(x, String.valueOf((char) ('a' + i)));
        }
        t.answer("value(2), full", x.value(2), 10);
    }

    static void promise16AWhatTooSmallOrTooLarge(Sentence t) {
        t.says("BAD_VALUE");
        for (int what : new int[] {-1, 5, 256, LOW, HIGH}) {
            t.unchanged("value(" + what + ")", -2, x -> busy(x), x -> x.value(what));
        }
    }

    // ---- objects

    private static BoundaryAnalyzer busy(BoundaryAnalyzer x) {
        return SentencesOnRules.busy(x, "(A|B)+");
    }

    private static BoundaryAnalyzer full(BoundaryAnalyzer x) {
        Make.ruled(x, 1, 0, "A+");
        return Make.append(x, "ab c. 1, d".repeat(10));
    }

    private static void fullAgain(BoundaryAnalyzer x) {
        full(x);
        x.erase(10, 20);
        x.undo();
    }

    /** The letters from "A" on, each inserted at the end. */
    private static BoundaryAnalyzer letters(int count) {
        return Make.append(Make.fresh(), letterText(count));
    }

    private static String letterText(int count) {
        StringBuilder all = new StringBuilder();
        for (int i = 0; i < count; i++) {
            all.append((char) ('A' + i % 26));
        }
        return all.toString();
    }

    private static void allUndone(BoundaryAnalyzer x) {
        Make.append(x, "Dr.");
        x.undo();
        x.undo();
        x.undo();
    }

    private static void keptUndone(BoundaryAnalyzer x) {
        Make.append(x, letterText(32));
        for (int i = 0; i < 30; i++) {
            x.undo();
        }
        // Else the work would be 0 before and behind the call.
        x.setClass('#', 0);
    }

    private static void redone(BoundaryAnalyzer x) {
        Make.append(x, "Dr. No");
        x.undo();
        x.redo();
    }

    private static void insertedBehindUndo(BoundaryAnalyzer x) {
        Make.append(x, "Dr. No");
        x.undo();
        x.insert(0, ' ');
    }
}
