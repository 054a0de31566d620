import java.util.HashMap;
import java.util.Map;

/** Tests of single sentences of the description, with the edges that they name. */
final class SentencesOnDescription {
    private static final String LETTERS = "abcdefghijklmnopqrstuvwxyzABCDEFGHIJKLMNOPQRSTUVWXYZ";
    private static final String[] FIRST_CLASSES = {LETTERS, "0123456789", " ", ".", ",;:", "!?", "'", "-", "([",
        ")]\"", "^~`", "#$%&*+/<=>@\\_{|}"};

    private SentencesOnDescription() {}

    // ---- characters and classes

    static void descriptionCharactersAre32To126(Sentence t) {
        t.says("Characters are those with the codes 32 to 126");
        BoundaryAnalyzer x = Make.fresh();
        int count = 0;
        for (int code = 0; code < 130; code++) {
            count += x.classOf((char) code) >= 0 ? 1 : 0;
        }
        t.answer("characters", count, 95);
        t.answer("the first one", x.insert(0, (char) 32), 1);
        t.answer("the last one", x.insert(0, (char) 126), 2);
    }

    static void descriptionTwelveClasses(Sentence t) {
        t.says("Each has one of 12 classes, A to L (numbers 0 to 11)");
        for (int number = 0; number < 12; number++) {
            BoundaryAnalyzer x = Make.with("##");
            x.setClass('#', number);
            for (int other = 0; other < 12; other++) {
                Make.ruled(x, 0, 0, String.valueOf((char) ('A' + other)).repeat(2));
                t.answer("class " + number + " by letter " + other, x.matchLength(0, 0, 0), other == number ? 2 : 0);
            }
        }
    }

    static void descriptionClassesAtFirst(Sentence t) {
        t.says("At first: A letters (a to z, A to Z), B digits, C blank, D \".\", E \",\" \";\" \":\", F \"!\" \"?\", "
                + "G \"'\", H \"-\", I \"(\" \"[\", J \")\" \"]\" and the double quote, "
                + "K \"^\" \"~\" and the grave accent (code 96), L all others");
        BoundaryAnalyzer x = Make.fresh();
        int count = 0;
        for (int number = 0; number < FIRST_CLASSES.length; number++) {
            for (char sign : FIRST_CLASSES[number].toCharArray()) {
                t.answer("classOf('" + sign + "')", x.classOf(sign), number);
                count++;
            }
        }
        t.answer("characters", count, 95);
    }

    // ---- patterns

    /** Whether the pattern is taken as a rule, or refused with this fault. */
    private static void fault(Sentence t, String pattern, int fault) {
        BoundaryAnalyzer x = Make.typed(Make.fresh(), pattern);
        t.answer("setRule of '" + pattern + "'", x.setRule(0, 0), -100 - fault);
        t.answer("ruleText of '" + pattern + "'", x.ruleText(0, 0, 0), -5);
    }

    private static void fine(Sentence t, String pattern) {
        BoundaryAnalyzer x = Make.typed(Make.fresh(), pattern);
        t.answer("setRule of '" + pattern + "'", x.setRule(0, 0), 0);
        t.same("the rule '" + pattern + "'", Make.rule(x, 0, 0), pattern);
    }

    static void descriptionAPatternOf24(Sentence t) {
        t.says("A pattern is a text of at most 24 characters with this grammar, without blanks:");
        fine(t, "A");
        fine(t, "ABCDEFGHIJKLABCDEFGHIJKL");
        fine(t, "((((A*|B+)?.|C)+D)?E)*/F");
        t.answer("a 25th character", Make.typed(Make.fresh(), "A".repeat(24)).type('A'), -3);
    }

    static void descriptionAPatternWithABlank(Sentence t) {
        t.says("without blanks:");
        fault(t, " ", 0);
        fault(t, " A", 0);
        fault(t, "A ", 1);
        fault(t, "A |B", 1);
        fault(t, "A| B", 2);
        fault(t, "( A)", 1);
        fault(t, "(A )", 2);
        fault(t, "A/ B", 2);
        fault(t, "A *", 1);
    }

    static void descriptionTheSlash(Sentence t) {
        t.says("rule = alternatives [ \"/\" alternatives ]");
        fine(t, "A/B");
        fine(t, "A|B/C|D");
        fault(t, "/", 0);
        fault(t, "/A", 0);
        fault(t, "A/", 2);
        fault(t, "A//", 2);
        fault(t, "A//B", 2);
        fault(t, "A/B/", 3);
        fault(t, "A/B/C", 3);
        fault(t, "(A/B)", 2);
        fault(t, "(A)/(B/C)", 6);
    }

    static void descriptionTheBar(Sentence t) {
        t.says("alternatives = sequence { \"|\" sequence }");
        fine(t, "A|B");
        fine(t, "A|B|C|D|E|F|G|H|I|J|K|LL");
        fine(t, "(A|B|C)");
        fault(t, "|", 0);
        fault(t, "|A", 0);
        fault(t, "A|", 2);
        fault(t, "A||B", 2);
        fault(t, "(|A)", 1);
        fault(t, "(A|)", 3);
        fault(t, "A|/B", 2);
        fault(t, "A/|B", 2);
        fault(t, "A/B|", 4);
    }

    static void descriptionTheEmptySequence(Sentence t) {
        t.says("sequence = item { item }");
        fine(t, "AB");
        fine(t, "A(B)C.");
        fault(t, "()", 1);
        fault(t, "A()", 2);
        fault(t, "(())", 2);
        fault(t, "A/()", 3);
    }

    static void descriptionTheItem(Sentence t) {
        t.says("item = ( a class letter A to L | \".\" | \"(\" alternatives \")\" ) [ \"*\" | \"+\" | \"?\" ]");
        for (char letter = 'A'; letter <= 'L'; letter++) {
            fine(t, String.valueOf(letter));
        }
        for (char other : "@MZa0,-[]{}^$\\\"\u0000\u001f\u007f\u0141\uffff".toCharArray()) {
            fault(t, String.valueOf(other), 0);
            fault(t, "A" + other, 1);
        }
        fine(t, ".");
        fine(t, "(A)");
        fault(t, ")", 0);
        fault(t, "A)", 1);
        fault(t, "(A))", 3);
    }

    static void descriptionTheRepetition(Sentence t) {
        t.says("[ \"*\" | \"+\" | \"?\" ]");
        for (String sign : new String[] {"*", "+", "?"}) {
            fine(t, "A" + sign);
            fine(t, "." + sign);
            fine(t, "(A)" + sign);
            fine(t, "(A" + sign + ")" + sign);
            fine(t, "A" + sign + "B" + sign);
            fault(t, sign, 0);
            fault(t, "(" + sign, 1);
            fault(t, "A|" + sign, 2);
            fault(t, "A/" + sign, 2);
            for (String second : new String[] {"*", "+", "?"}) {
                fault(t, "A" + sign + second, 2);
                fault(t, "(A)" + sign + second, 4);
            }
        }
    }

    private static void length(Sentence t, String text, String pattern, int want) {
        BoundaryAnalyzer x = Make.ruled(Make.with(text), 0, 0, pattern);
        t.answer(pattern + " at '" + text + "'", x.matchLength(0, 0, 0), want);
    }

    static void descriptionALetterMatchesOne(Sentence t) {
        t.says("A class letter matches one character of this class");
        length(t, "", "A", 0);
        length(t, "a", "A", 1);
        length(t, "aa", "A", 1);
        length(t, "1", "A", 0);
    }

    static void descriptionTheDotMatchesAnyOne(Sentence t) {
        t.says("\".\" any one character");
        length(t, "", ".", 0);
        BoundaryAnalyzer x = Make.ruled(Make.fresh(), 0, 0, "..");
        for (char code = 32; code <= 126; code++) {
            x.insert(0, code);
        }
        for (int position = 0; position < 95; position++) {
            t.answer(".. at " + position, x.matchLength(0, 0, position), position < 94 ? 2 : 0);
        }
    }

    static void descriptionTheStar(Sentence t) {
        t.says("\"*\" stands for any number of repetitions, also none");
        length(t, "1", "A*B", 1);
        length(t, "a1", "A*B", 2);
        length(t, "a".repeat(99) + "1", "A*B", 100);
        length(t, "a1a1a", "(AB)*", 4);
    }

    static void descriptionThePlus(Sentence t) {
        t.says("\"+\" for at least one");
        length(t, "1", "A+B", 0);
        length(t, "a1", "A+B", 2);
        length(t, "a".repeat(99) + "1", "A+B", 100);
        length(t, "a1a1a", "(AB)+", 4);
    }

    static void descriptionTheQuestionMark(Sentence t) {
        t.says("\"?\" for one or none");
        length(t, "1", "A?B", 1);
        length(t, "a1", "A?B", 2);
        length(t, "aa1", "A?B", 0);
        length(t, "a1a1a", "(AB)?", 2);
    }

    static void descriptionParenthesesFourDeep(Sentence t) {
        t.says("Parentheses are nested at most 4 deep");
        fine(t, "((((A))))");
        fine(t, "((((A)(B))))((((C))))");
        fine(t, "((((A))))/((((B))))");
        fault(t, "(((((A)))))", 4);
        fault(t, "A/(((((A)))))", 6);
        length(t, "a1a1", "((((A)B)*))", 4);
    }

    static void descriptionAFifthParenthesis(Sentence t) {
        t.says("(a fifth \"(\" within four open ones is not allowed, either)");
        fault(t, "(((((", 4);
        fault(t, "((((A(", 5);
        fault(t, "((((A|(", 6);
        fault(t, "((((A)((", 7);
        fault(t, "((((A)))(((((", 11);
    }

    static void descriptionTheFirstFaultCounts(Sentence t) {
        t.says("The fault of a pattern is the index, from 0, of the first character that is not allowed at its place");
        fault(t, "x", 0);
        fault(t, "*+?", 0);
        fault(t, "AxBx", 1);
        fault(t, "(A))|", 3);
        fault(t, "A".repeat(23) + "x", 23);
    }

    static void descriptionAPatternThatEndsTooEarly(Sentence t) {
        t.says("or its length if it ends too early");
        fault(t, "(", 1);
        fault(t, "(A", 2);
        fault(t, "((A)", 4);
        fault(t, "((((", 4);
        fault(t, "A|", 2);
        fault(t, "A/", 2);
        fault(t, "A/(B|", 5);
        fault(t, "A".repeat(23) + "|", 24);
    }

    /** Each short pattern, against the plainest reading: is there a pattern that begins so? */
    static void descriptionTheFaultsOfAllShortPatterns(Sentence t) {
        t.says("The fault of a pattern is the index, from 0, of the first character that is not allowed at its place");
        Grammar grammar = new Grammar();
        String signs = "A(|)/*x";
        int count = 1;
        for (int length = 1; length <= 5; length++) {
            count *= signs.length();
            for (int number = 0; number < count; number++) {
                String pattern = grammar.nth(signs, length, number);
                int fault = grammar.faultOf(pattern);
                int got = Make.typed(Make.fresh(), pattern).setRule(0, 0);
                t.answer("setRule of '" + pattern + "'", got, fault < 0 ? 0 : -100 - fault);
            }
        }
    }

    /** The grammar, by rewriting: what is an item becomes "i". */
    private static final class Grammar {
        private final Map<String, Boolean> begins = new HashMap<>();

        String nth(String signs, int length, int number) {
            StringBuilder all = new StringBuilder();
            int left = number;
            for (int i = 0; i < length; i++) {
                all.append(signs.charAt(left % signs.length()));
                left /= signs.length();
            }
            return all.toString();
        }

        int faultOf(String pattern) {
            for (int i = 0; i < pattern.length(); i++) {
                if (!begins.computeIfAbsent(pattern.substring(0, i + 1), this::beginsAPattern)) {
                    return i;
                }
            }
            return isPattern(pattern) ? -1 : pattern.length();
        }

        private boolean beginsAPattern(String signs) {
            for (int closing = 0; closing <= 5; closing++) {
                if (isPattern(signs + ")".repeat(closing)) || isPattern(signs + "A" + ")".repeat(closing))) {
                    return true;
                }
            }
            return false;
        }

        private boolean isPattern(String signs) {
            String items = signs.replaceAll("[A-L.][*+?]?", "i");
            for (int depth = 0; depth < 4; depth++) {
                items = items.replaceAll("\\(i+(\\|i+)*\\)[*+?]?", "i");
            }
            return items.matches("i+(\\|i+)*(/i+(\\|i+)*)?");
        }
    }

    // ---- rules

    static void descriptionFiveRulesOfThreeKinds(Sentence t) {
        t.says("There are three kinds of analysis, 0 to 2, with up to 5 rules each, in the places 0 to 4");
        BoundaryAnalyzer x = Make.fresh();
        for (int kind = 0; kind < 3; kind++) {
            for (int place = 0; place < 5; place++) {
                Make.ruled(x, kind, place, "A".repeat(1 + kind * 5 + place));
            }
        }
        Make.append(x, "a".repeat(30));
        for (int kind = 0; kind < 3; kind++) {
            for (int place = 0; place < 5; place++) {
                t.answer("matchLength(" + kind + ", " + place + ", 0)", x.matchLength(kind, place, 0), 1 + kind * 5 + place);
            }
            t.answer("the longest of kind " + kind, x.next(kind, 0), 5 + kind * 5);
        }
    }

    static void descriptionBodyAndLookAhead(Sentence t) {
        t.says("A rule without \"/\" has a body; one with \"/\" has a body and a look-ahead");
        length(t, "a1", "AB", 2);
        length(t, "a1", "A/B", 1);
        length(t, "a", "A/B", 0);
    }

    static void descriptionTheGreatestLength(Sentence t) {
        t.says("The length of a rule at a position p of the text is the greatest n from 1 on");
        length(t, "aaa", "A|AA|AAA", 3);
        length(t, "aaa", "AAA|AA|A", 3);
        length(t, "a".repeat(100), ".*", 100);
        length(t, "ab1c1d", ".*B", 5);
    }

    static void descriptionAMatchOfNothing(Sentence t) {
        t.says("the greatest n from 1 on");
        length(t, "1", "A*", 0);
        length(t, "1", "A?", 0);
        length(t, "", "A*", 0);
        length(t, "1", "A*/B", 0);
        length(t, "1", "A*/B*", 0);
        length(t, "1", "(A*)*", 0);
    }

    static void descriptionALookAheadOfNothing(Sentence t) {
        t.says("and, if there is a look-ahead, some number of characters (perhaps none) that follow them match the look-ahead");
        length(t, "aa", "A+/B*", 2);
        length(t, "aa", "A+/B?", 2);
        length(t, "aa", "A+/B+", 0);
        length(t, "aa1", "A+/B*", 2);
    }

    static void descriptionALookAheadTakesFromTheBody(Sentence t) {
        t.says("some number of characters (perhaps none) that follow them match the look-ahead");
        length(t, "aaa", "A+/A", 2);
        length(t, "aaa", "A+/AA", 1);
        length(t, "aaa", "A+/AAA", 0);
        length(t, "a".repeat(100), "A+/A", 99);
        length(t, "aa1", "A+/A*B", 2);
    }

    static void descriptionNoLength(Sentence t) {
        t.says("it is 0 if there is no such n");
        length(t, "", "A", 0);
        length(t, "1", "A", 0);
        length(t, "aa", "AAA", 0);
        length(t, "a", "A/.", 0);
    }

    static void descriptionTheGreatestOfAllRules(Sentence t) {
        t.says("The segment at p has the greatest length of all rules of the kind at p");
        String[] rules = {"A", "AA", "AAA", "B", "AB"};
        for (int shift = 0; shift < 5; shift++) {
            BoundaryAnalyzer x = Make.with("aaaaa1");
            for (int place = 0; place < 5; place++) {
                Make.ruled(x, 1, place, rules[(place + shift) % 5]);
            }
            t.same("boundaries", Make.states(x, 1), "1001011");
        }
    }

    static void descriptionASegmentOfOne(Sentence t) {
        t.says("or 1 if it is 0 for all of them (also without rules)");
        BoundaryAnalyzer x = Make.with("a1");
        t.same("boundaries without rules", Make.states(x, 0), "111");
        Make.ruled(Make.ruled(x, 0, 0, "C*"), 0, 4, "AA");
        t.same("boundaries with rules that match nothing", Make.states(x, 0), "111");
    }

    private static void looks(Sentence t, String text, String pattern, String want) {
        t.same(pattern + " at '" + text + "'", Make.looks(Make.ruled(Make.with(text), 0, 0, pattern), 0), want);
    }

    static void descriptionTheLeastNumberThatBeginsNothing(Sentence t) {
        t.says("r is the least number for which the classes of the r characters from p on are not the beginning of any "
                + "sequence of classes that a rule of the kind matches as a whole");
        looks(t, "aa1a", "AAB", "4 2 1 2");
        looks(t, "a11", "ABC", "3 1 1");
        looks(t, "ab", "A", "2 2");
        looks(t, "a1", "A*", "2 1");
    }

    static void descriptionOfAnyRule(Sentence t) {
        t.says("any sequence of classes that a rule of the kind matches as a whole");
        BoundaryAnalyzer x = Make.with("aa1 ");
        Make.ruled(Make.ruled(Make.ruled(x, 0, 0, "A"), 0, 4, "AABA"), 1, 0, "AA");
        t.same("kind 0", Make.looks(x, 0), "4 2 1 1");
        t.same("kind 1", Make.looks(x, 1), "3 2 1 1");
        t.same("kind 2, without rules", Make.looks(x, 2), "1 1 1 1");
    }

    static void descriptionBodyFollowedByLookAhead(Sentence t) {
        t.says("(body followed by look-ahead, where either may match nothing;");
        looks(t, "a1 ", "A/B", "3 1 1");
        looks(t, "1 a", "A*/B", "2 1 2");
        looks(t, "a1 ", "A/B*", "3 1 1");
        looks(t, "1a1", "A?/B?", "2 3 2");
        looks(t, "a a", "A/A", "2 1 2");
    }

    static void descriptionABeginningOfItself(Sentence t) {
        t.says("a sequence is a beginning of itself)");
        looks(t, "a1", "A", "2 1");
        looks(t, "aa1", "AA", "3 2 1");
        looks(t, "a", "A", "2");
    }

    static void descriptionAtLeastOne(Sentence t) {
        t.says("at least 1");
        t.same("without rules", Make.looks(Make.with("a1"), 0), "1 1");
        looks(t, "11", "A", "1 1");
        looks(t, "1", "A*", "1");
    }

    static void descriptionTheEndIsLookedAt(Sentence t) {
        t.says("If there is no such number up to the end of the text, it looks at all characters from p on, and at the end");
        looks(t, "aaa", "A*", "4 3 2");
        looks(t, "aa", "AAA", "3 2");
        looks(t, "aa", "AA", "3 2");
        looks(t, "aa", "A", "2 2");
        t.answer("of a full text", Make.ruled(Make.with("a".repeat(100)), 0, 0, ".*").looksAt(0, 0), 101);
    }

    // ---- boundaries

    static void descriptionRawBoundaries(Sentence t) {
        t.says("The raw boundaries of a kind are 0, the end of the segment at 0, the end of the segment that begins there, "
                + "and so on up to the length of the text");
        BoundaryAnalyzer x = Make.ruled(Make.with("aaaaa"), 0, 0, "AA");
        t.same("boundaries", Make.states(x, 0), "101011");
        BoundaryAnalyzer y = Make.ruled(Make.with("a".repeat(100)), 0, 0, "AAA");
        t.same("boundaries of a full text", Make.states(y, 0), "100".repeat(33) + "11");
    }

    static void descriptionRawBoundariesOfTheEmptyText(Sentence t) {
        t.says("(0 alone for the empty text)");
        BoundaryAnalyzer x = Make.excepting(Make.ruled(Make.fresh(), 2, 0, "A*"), "a");
        for (int kind = 0; kind < 3; kind++) {
            t.same("boundaries of kind " + kind, Make.states(x, kind), "1");
            t.answer("segmentCount(" + kind + ")", x.segmentCount(kind), 0);
            t.answer("next(" + kind + ", 0)", x.next(kind, 0), -5);
        }
    }

    private static void suppressed(Sentence t, String text, String word, String want) {
        t.same(word + " in '" + text + "'", Make.states(Make.excepting(Make.with(text), word), 2), want);
    }

    static void descriptionOnlyKindTwoIsSuppressed(Sentence t) {
        t.says("They are the boundaries of the kind, but for the kind 2 raw boundaries are suppressed as follows:");
        BoundaryAnalyzer x = Make.excepting(Make.with("a.b"), "a");
        t.same("boundaries of kind 0", Make.states(x, 0), "1111");
        t.same("boundaries of kind 1", Make.states(x, 1), "1111");
        t.same("boundaries of kind 2", Make.states(x, 2), "1121");
    }

    static void descriptionTheEndsAreNotSuppressed(Sentence t) {
        t.says("a raw boundary other than 0 and the length of the text is suppressed");
        suppressed(t, "a.", "a", "111");
        suppressed(t, "a. ", "a", "1121");
        suppressed(t, "a.  ", "a", "11221");
        BoundaryAnalyzer x = Make.excepting(Make.with("a.b"), "a");
        x.erase(2, 1);
        t.same("with what followed erased", Make.states(x, 2), "111");
        x.undo();
        t.same("with what followed back", Make.states(x, 2), "1121");
    }

    static void descriptionOnlyRawBoundariesAreSuppressed(Sentence t) {
        t.says("a raw boundary other than 0 and the length of the text is suppressed");
        BoundaryAnalyzer x = Make.excepting(Make.ruled(Make.with("a. b"), 2, 0, "A+D?C*"), "a");
        t.same("boundaries", Make.states(x, 2), "10021");
    }

    static void descriptionTheWholeWord(Sentence t) {
        t.says("if the characters before it are a word that is an exception, in its whole length "
                + "(the character before the word, if any, is not of class A)");
        suppressed(t, "ab.c", "ab", "11121");
        suppressed(t, "xab.c", "ab", "111111");
        suppressed(t, "1ab.c", "ab", "111121");
        suppressed(t, " ab.c", "ab", "111121");
        suppressed(t, ".ab.c", "ab", "111121");
        suppressed(t, "ab.c", "b", "11111");
        suppressed(t, "ab.c", "a", "11111");
        suppressed(t, "ab.c", "abc", "11111");
        suppressed(t, "Ab.c", "ab", "11111");
        suppressed(t, "abcdefgh.i", "abcdefgh", "11111111121");
        suppressed(t, "xabcdefgh.i", "abcdefgh", "111111111111");
    }

    static void descriptionOneDot(Sentence t) {
        t.says("one \".\"");
        suppressed(t, "ab c", "ab", "11111");
        suppressed(t, "abc", "ab", "1111");
        suppressed(t, "ab..c", "ab", "111211");
        suppressed(t, "ab,c", "ab", "11111");
        suppressed(t, ".c", "ab", "111");
        suppressed(t, "..c", "ab", "1111");
    }

    static void descriptionTheDotIsTheCharacter(Sentence t) {
        t.says("one \".\"");
        BoundaryAnalyzer x = Make.excepting(Make.with("a.b,c"), "a");
        Make.excepting(x, "b");
        x.setClass(',', 3);
        t.same("a comma of the dot's class", Make.states(x, 2), "112111");
        x.setClass('.', 11);
        t.same("a dot of another class", Make.states(x, 2), "112111");
    }

    static void descriptionAnyNumberOfBlanks(Sentence t) {
        t.says("and any number of characters of class C (perhaps none), in this order");
        suppressed(t, "a.b", "a", "1121");
        suppressed(t, "a. b", "a", "11221");
        suppressed(t, "a." + " ".repeat(97) + "b", "a", "11" + "2".repeat(98) + "1");
        suppressed(t, "a .b", "a", "11111");
        suppressed(t, "a. . b", "a", "1122111");
        BoundaryAnalyzer x = Make.excepting(Make.with("a.1b"), "a");
        t.same("a digit", Make.states(x, 2), "11211");
        x.setClass('1', 2);
        t.same("a digit of class C", Make.states(x, 2), "11221");
    }

    static void descriptionAWordIsOfClassA(Sentence t) {
        t.says("A word is a sequence of characters of class A");
        suppressed(t, "a1.c", "a1", "11111");
        suppressed(t, "-.c", "-", "1111");
        BoundaryAnalyzer x = Make.excepting(Make.with("a1.c"), "a1");
        x.setClass('1', 0);
        t.same("a digit of class A", Make.states(x, 2), "11121");
        x.setClass('a', 1);
        t.same("a letter of class B", Make.states(x, 2), "11111");
    }

    // ---- keeping

    static void descriptionKeptForEachKind(Sentence t) {
        t.says("Raw boundaries are kept for each kind");
        BoundaryAnalyzer x = Make.with("ab1");
        Make.ruled(Make.ruled(Make.ruled(x, 0, 0, "A+"), 1, 0, "B+"), 2, 0, "AB");
        Make.append(x, "2");
        t.same("kind 0", Make.states(x, 0), "10111");
        t.same("kind 1", Make.states(x, 1), "11101");
        t.same("kind 2", Make.states(x, 2), "11011");
    }

    static void descriptionARuleSetOrRemoved(Sentence t) {
        t.says("When a rule is set or removed, the text is analysed anew for its kind");
        BoundaryAnalyzer x = Make.with("ab");
        Make.ruled(x, 1, 0, "A+");
        t.same("set", Make.states(x, 0) + " " + Make.states(x, 1) + " " + Make.states(x, 2), "111 101 111");
        Make.typed(x, "").setRule(1, 0);
        t.same("removed", Make.states(x, 1), "111");
    }

    static void descriptionAClassBecomesAnother(Sentence t) {
        t.says("when the class of a character becomes another one, for all kinds");
        BoundaryAnalyzer x = Make.with("a1");
        Make.ruled(Make.ruled(Make.ruled(x, 0, 0, "A+"), 1, 1, "A+"), 2, 2, "A+");
        x.setClass('1', 0);
        t.same("another class", Make.states(x, 0) + " " + Make.states(x, 1) + " " + Make.states(x, 2), "101 101 101");
        t.same("works", Make.works(x), "1 1 1");
        x.setClass('1', 1);
        t.same("the first class again", Make.states(x, 0) + " " + Make.states(x, 1) + " " + Make.states(x, 2), "111 111 111");
        t.same("works", Make.works(x), "2 2 2");
    }

    static void descriptionWhereAnEditIs(Sentence t) {
        t.says("An edit inserts n characters at a position e (behind the characters before e), or erases n characters from e on");
        BoundaryAnalyzer x = Make.with("abc");
        x.insert(1, 'x');
        t.same("an insertion at 1", Make.text(x), "axbc");
        x.erase(1, 2);
        t.same("an erasure of 2 from 1 on", Make.text(x), "ac");
        x.undo();
        t.same("an insertion of 2 at 1", Make.text(x), "axbc");
    }

    static void descriptionDoneForEachKind(Sentence t) {
        t.says("Then the following is done for each kind");
        BoundaryAnalyzer x = Make.with("ab cd");
        Make.ruled(Make.ruled(x, 1, 0, "A+"), 2, 0, ".*F");
        x.insert(4, ' ');
        t.same("works, each by its own rules", Make.works(x), "1 3 5");
    }

    static void descriptionNoAnalysisAtTheLastBoundary(Sentence t) {
        t.says("An analysis takes place at each raw boundary but the last one");
        BoundaryAnalyzer x = Make.with("abc");
        Make.ruled(x, 1, 0, "A");
        t.same("works of a rule", Make.works(x), "1 3 1");
        BoundaryAnalyzer empty = Make.ruled(Make.fresh(), 1, 0, "A");
        t.same("works of a rule for no text", Make.works(empty), "0 0 0");
    }

    static void descriptionAnAnalysisThatLookedAtTheEnd(Sentence t) {
        t.says("Let s be the first raw boundary at which the analysis looked at the end of the text");
        BoundaryAnalyzer x = Make.ruled(Make.with("ba"), 1, 0, "A");
        Make.append(x, "1");
        t.answer("work(1): the last letter looked at the end", x.work(1), 2);
        Make.append(x, "1");
        t.answer("work(1): no digit did", x.work(1), 1);
        BoundaryAnalyzer y = Make.ruled(Make.with("11"), 1, 0, ".*F");
        Make.append(y, "1");
        t.answer("work(1): all looked at the end", y.work(1), 3);
    }

    static void descriptionAnAnalysisThatLookedAtTheEditedPlace(Sentence t) {
        t.says("or at a character whose position is at least e");
        BoundaryAnalyzer x = Make.ruled(Make.with("ab 1"), 1, 0, "A+");
        x.insert(3, '1');
        t.answer("work(1): the word looked at 2 only, the edit is at 3", x.work(1), 1);
        x.insert(2, '1');
        t.answer("work(1): the word looked at 2, where the edit is", x.work(1), 2);
        BoundaryAnalyzer y = Make.ruled(Make.with("ab 11"), 1, 0, "A+");
        y.erase(3, 1);
        t.answer("work(1): erased behind what the word looked at", y.work(1), 0);
        y.erase(2, 1);
        t.answer("work(1): erased what the word looked at", y.work(1), 1);
    }

    static void descriptionNoAnalysisLookedThere(Sentence t) {
        t.says("without such a raw boundary, let s be the last one");
        BoundaryAnalyzer x = Make.fresh();
        x.insert(0, 'a');
        t.same("works of the first character", Make.works(x), "1 1 1");
        x.insert(1, 'b');
        t.same("works of a character at the end", Make.works(x), "1 1 1");
    }

    static void descriptionWhatIsBeforeStays(Sentence t) {
        t.says("All raw boundaries up to s stay");
        BoundaryAnalyzer x = Make.ruled(Make.with("ab cd ef"), 1, 0, "A+");
        x.insert(7, 'x');
        t.answer("work(1)", x.work(1), 1);
        t.same("boundaries", Make.states(x, 1), "1011011001");
    }

    static void descriptionUntilTheEnd(Sentence t) {
        t.says("until the next one would begin at the end of the text");
        BoundaryAnalyzer x = Make.ruled(Make.with("ab cd"), 1, 0, "A+");
        x.erase(3, 2);
        t.same("works with the end erased", Make.works(x), "0 0 0");
        x.erase(0, 3);
        t.same("works with all erased", Make.works(x), "0 0 0");
        x.undo();
        t.same("works with all inserted", Make.works(x), "3 2 3");
    }

    static void descriptionUntilAKnownBoundary(Sentence t) {
        t.says("or at a position q that is behind the edited place (at least e + n after an insertion, at least e after an "
                + "erasure) and whose position before the edit (q - n after an insertion, q + n after an erasure) was a raw "
                + "boundary");
        BoundaryAnalyzer x = Make.ruled(Make.with("aaaaaa"), 1, 0, "AA");
        x.insert(1, 'a');
        t.answer("work(1): all pairs are others", x.work(1), 4);
        x.erase(0, 1);
        t.answer("work(1): all pairs are others again", x.work(1), 3);
        x.erase(0, 2);
        t.answer("work(1): a pair is erased", x.work(1), 0);
        x.undo();
        t.answer("work(1): a pair is inserted", x.work(1), 1);
        x.erase(1, 2);
        t.answer("work(1): halves of two pairs are erased", x.work(1), 1);
        x.undo();
        t.answer("work(1): halves of two pairs are inserted", x.work(1), 2);
    }

    static void descriptionABoundaryBeforeTheEditedPlace(Sentence t) {
        t.says("behind the edited place (at least e + n after an insertion");
        BoundaryAnalyzer x = Make.with("abc");
        x.erase(1, 2);
        x.undo();
        t.same("works: q goes on to e + n", Make.works(x), "2 2 2");
        x.insert(1, 'x');
        t.same("works: q goes on to e + 1", Make.works(x), "1 1 1");
        x.insert(0, 'x');
        t.same("works: q goes on from 0 to 1", Make.works(x), "1 1 1");
    }

    static void descriptionTestedBeforeTheFirstAnalysis(Sentence t) {
        t.says("this is tested before each analysis, also the first one");
        BoundaryAnalyzer x = Make.with("abc");
        x.erase(1, 1);
        t.same("works with a character within erased", Make.works(x), "0 0 0");
        x.erase(0, 1);
        t.same("works with the first one erased", Make.works(x), "0 0 0");
        x.erase(0, 1);
        t.same("works with the last one erased", Make.works(x), "0 0 0");
    }

    static void descriptionWhatIsBehindIsMoved(Sentence t) {
        t.says("From there on, the raw boundaries stay, moved by the edit");
        BoundaryAnalyzer x = Make.ruled(Make.with("a bb ccc"), 1, 0, "A+");
        x.insert(0, ' ');
        t.same("moved by one", Make.states(x, 1), "1111011001");
        t.answer("work(1)", x.work(1), 1);
        x.erase(0, 3);
        t.same("moved by three", Make.states(x, 1), "1011001");
        t.answer("work(1)", x.work(1), 0);
        x.undo();
        t.same("moved back", Make.states(x, 1), "1111011001");
    }

    static void descriptionTheWorkOfChanges(Sentence t) {
        t.says("The work of an edit is the number of segments that are analysed; that of a change of rules or classes is the "
                + "number of all segments");
        BoundaryAnalyzer x = Make.ruled(Make.with("ab cd ef"), 1, 0, "A+");
        t.answer("work(1) of a rule", x.work(1), 5);
        x.insert(4, ' ');
        t.answer("work(1) of an edit", x.work(1), 3);
        x.setClass('#', 0);
        t.same("works of a class", Make.works(x), "9 7 9");
    }

    /** The document leaves open which segments it means; those that are analysed are the raw ones. */
    static void descriptionTheWorkCountsSuppressedBoundaries(Sentence t) {
        t.says("that of a change of rules or classes is the number of all segments");
        BoundaryAnalyzer x = Make.excepting(Make.with("Dr. No"), "Dr");
        x.setClass('#', 0);
        t.same("works of a class", Make.works(x), "6 6 6");
        Make.ruled(x, 2, 0, "A+D?C*");
        t.same("works of a rule", Make.works(x), "6 6 2");
        t.answer("segmentCount(2)", x.segmentCount(2), 1);
    }

    static void descriptionWhatAnAnalysisLookedAtStays(Sentence t) {
        t.says("(What an analysis looked at, if it stays, is what it would look at in the new text");
        BoundaryAnalyzer x = Make.ruled(Make.with("ab 1 cd 2"), 1, 0, "A+");
        t.same("looks", Make.looks(x, 1), "3 2 1 1 1 3 2 1 1");
        x.insert(4, '1');
        t.same("looks then", Make.looks(x, 1), "3 2 1 1 1 1 3 2 1 1");
        x.insert(9, ' ');
        t.answer("work(1) behind the moved word", x.work(1), 1);
        x.insert(8, 'e');
        t.answer("work(1) at the moved word", x.work(1), 1);
        t.same("boundaries", Make.states(x, 1), "1011111001111");
    }

    /** Each small text with each edit, against the model, and against a fresh object. */
    static void descriptionKeptIsAsFresh(Sentence t) {
        t.says("Kept boundaries are the same as those of a fresh analysis.)");
        String[][] rules = {{"A+", "AB", "A.*B"}, {".*D", "A+/B", "AA|BA"}, {"(AB)*A", "A*/D", "./A"},
            {"(A|B)+D", "..", "A/.*D"}, {"AAA", "A?B?/D", "(A|AB)(B|D)"}};
        for (String[] three : rules) {
            SmallTexts texts = new SmallTexts(three);
            texts.all("", 4);
            t.answer("wrong answers with " + String.join(" ", three) + ": " + texts.firstWrong, texts.wrong, 0);
            t.holds("small texts have been tried", texts.edits > 1000);
        }
    }

    // ---- errors

    static void descriptionErrorsAreTheConstants(Sentence t) {
        t.says("Errors are reported by the constants below");
        t.answer("NO_SUCH_POSITION", Make.fresh().charAt(0), BoundaryAnalyzer.NO_SUCH_POSITION);
        t.answer("BAD_VALUE", Make.fresh().value(5), BoundaryAnalyzer.BAD_VALUE);
        t.answer("FULL", Make.typed(Make.fresh(), "A".repeat(24)).type('A'), BoundaryAnalyzer.FULL);
        t.answer("NOT_NEW", Make.excepting(Make.fresh(), "a").addException(), BoundaryAnalyzer.NOT_NEW);
        t.answer("NONE", Make.fresh().undo(), BoundaryAnalyzer.NONE);
        t.answer("NO_SUCH_POSITION", BoundaryAnalyzer.NO_SUCH_POSITION, -1);
        t.answer("BAD_VALUE", BoundaryAnalyzer.BAD_VALUE, -2);
        t.answer("FULL", BoundaryAnalyzer.FULL, -3);
        t.answer("NOT_NEW", BoundaryAnalyzer.NOT_NEW, -4);
        t.answer("NONE", BoundaryAnalyzer.NONE, -5);
    }

    static void descriptionTheOrderOfErrors(Sentence t) {
        t.says("Where several errors can apply, the order of the @return line is the order of the checks");
        BoundaryAnalyzer x = Make.typed(Make.with("a"), "(");
        t.answer("setRule: kind before fault", x.setRule(3, 0), -2);
        t.answer("matchLength: kind before position", x.matchLength(3, 0, 9), -2);
        t.answer("matchLength: place before position", x.matchLength(0, 5, 9), -2);
        t.answer("insert: position before character", x.insert(2, (char) 31), -1);
        t.answer("erase: position before number", x.erase(1, 0), -1);
        t.answer("boundaryAt: kind before position", x.boundaryAt(3, 9), -2);
        t.answer("next: kind before position", x.next(3, 9), -2);
        t.answer("previous: kind before position", x.previous(3, 9), -2);
        t.answer("looksAt: kind before position", x.looksAt(3, 9), -2);
    }

    static void descriptionNoneOnlyWithoutErrors(Sentence t) {
        t.says("NONE is returned only if no error applies");
        BoundaryAnalyzer x = Make.fresh();
        t.answer("ruleText with i negative, no rule", x.ruleText(0, 0, -1), -2);
        t.answer("matchLength with a bad position, no rule", x.matchLength(0, 0, 1), -1);
        t.answer("next of a bad kind, no text", x.next(3, 0), -2);
        t.answer("next of a bad position, no text", x.next(0, 1), -1);
        t.answer("previous of a bad position, no text", x.previous(0, 1), -1);
        t.answer("segment with k negative, no text", x.segment(0, -1), -2);
        t.answer("longest of a bad kind, no text", x.longest(3), -2);
    }

    /** Each promise has tests of what its own refused calls leave; here, all of them come one behind the other. */
    static void descriptionAnErrorChangesNothing(Sentence t) {
        t.says("A call that reports an error changes nothing");
        t.unchanged("refused calls", -2, x -> SentencesOnRules.busy(x, "(A"), SentencesOnDescription::refusedCalls);
        t.unchanged("refused calls", -2, x -> SentencesOnRules.busy(x, ""), SentencesOnDescription::refusedCalls);
    }

    private static int refusedCalls(BoundaryAnalyzer x) {
        x.setClass((char) 31, 0);
        x.setClass('a', 12);
        x.setRule(0, 5);
        x.setRule(3, 0);
        x.insert(13, 'a');
        x.insert(0, (char) 127);
        x.erase(12, 1);
        x.erase(0, 13);
        return x.value(5);
    }

    static void descriptionQuestionsChangeNothing(Sentence t) {
        t.says("Kept boundaries are the same");
        t.unchanged("questions", 0, x -> SentencesOnRules.busy(x, "A+"), SentencesOnDescription::questions);
    }

    private static int questions(BoundaryAnalyzer x) {
        for (int kind = 0; kind < 3; kind++) {
            x.segmentCount(kind);
            x.longest(kind);
            x.segmentsWith(kind, 0);
            x.work(kind);
            for (int position = 0; position < 12; position += 5) {
                x.boundaryAt(kind, position);
                x.next(kind, position);
                x.previous(kind, position);
                x.segment(kind, position);
                x.looksAt(kind, position);
                x.matchLength(kind, 2, position);
                x.ruleText(kind, 2, position);
            }
        }
        x.charAt(3);
        x.classOf('a');
        x.value(3);
        return 0;
    }
}
