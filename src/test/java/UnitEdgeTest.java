/** The edges that the document names for units and their objects, and in promises 3, 5 and 6. */
public final class UnitEdgeTest {
    private static final String[] WORDS = {"def", "mac", "if", "let", "do", "set", "run"};
    private static final String[] NO_SYMBOLS_OF_LETTERS = {
        "0", "1", "-1", "+", "-", "*", "<", "=", "()", "(x)", "(f 1)",
    };

    public static void main(String[] args) {
        definitionsHaveThreeForms();
        namesAreSymbolsOfLetters();
        namesAreNoWords();
        parametersAreAtMostFour();
        parametersAreDifferent();
        parametersMayBeWords();
        letMayBindWords();
        definitionsAreWholeUnits();
        numbersHaveSixteenBits();
        symbolsNeedSlots();
        pairsHaveTwoForms();
        wordsHaveTheirForms();
        setAndLetNeedSymbols();
        allElseIsWrong();
        slotsGrow();
        slotsAreOfTheLatestAround();
        codeHasAtMost200();
        codeOfMacrosHasAtMost200();
        objectsOfNamesAndParameters();
        objectsOfManyFixes();
        objectAnswersNone();
        unitsAreSixteen();
        theOneNamedFirst();
        clearTakesUnitsAlone();
        Trial.end();
    }

    private static void checkGood(String text) {
        Trial trial = new Trial();
        Trial.due("'" + text + "'", 0, trial.compile(text));
    }

    private static void checkWrong(String text) {
        Trial trial = new Trial().with("5");
        String before = trial.object(0);
        Trial.due("'" + text + "'", Trial.WRONG, trial.compile(text));
        Trial.due("no unit by '" + text + "'", -1, trial.forge.object(1, -1));
        Trial.due("the unit before '" + text + "'", before, trial.object(0));
        Trial.due("the next number", 1, trial.compile("6"));
    }

    private static void checkObject(String text, String due) {
        Trial trial = new Trial();
        trial.compile(text);
        Trial.due("the object of '" + text + "'", due, trial.object(0));
    }

    /** "(def NAME (PARAMETERS) BODY)" and mac: "that is not so ... is WRONG". */
    private static void definitionsHaveThreeForms() {
        for (String kind : new String[] {"def", "mac"}) {
            checkWrong("(" + kind + ")");
            checkWrong("(" + kind + " f)");
            checkWrong("(" + kind + " f ())");
            checkGood("(" + kind + " f () 1)");
            checkWrong("(" + kind + " f () 1 1)");
            checkWrong("(" + kind + " f () 1 1 1)");
            checkWrong("(" + kind + " () f 1)");
            checkWrong(kind);
        }
    }

    /** "Names and parameters are symbols of letters". */
    private static void namesAreSymbolsOfLetters() {
        for (String kind : new String[] {"def", "mac"}) {
            checkGood("(" + kind + " a () 1)");
            checkGood("(" + kind + " zzzz () 1)");
            for (String other : NO_SYMBOLS_OF_LETTERS) {
                checkWrong("(" + kind + " " + other + " () 1)");
                checkWrong("(" + kind + " f (" + other + ") 1)");
                checkWrong("(" + kind + " f (a b c " + other + ") 1)");
            }
            checkWrong("(" + kind + " f a 1)");
            checkWrong("(" + kind + " f 0 1)");
            checkWrong("(" + kind + " f + 1)");
        }
    }

    /** "the name none of the WORDS def mac if let do set run". */
    private static void namesAreNoWords() {
        for (String word : WORDS) {
            checkWrong("(def " + word + " () 1)");
            checkWrong("(mac " + word + " () 1)");
            String longer = word + "s";
            checkGood("(def " + longer + " () 1)");
            checkGood("(mac " + longer + " () 1)");
            checkGood("(def " + word.substring(1) + " () 1)");
            checkGood("(" + longer + " 1)");
        }
    }

    /** "at most 4". */
    private static void parametersAreAtMostFour() {
        for (String kind : new String[] {"def", "mac"}) {
            for (String parameters : new String[] {"", "a", "a b", "a b c", "a b c d"}) {
                checkGood("(" + kind + " f (" + parameters + ") 1)");
            }
            checkWrong("(" + kind + " f (a b c d e) 1)");
            checkWrong("(" + kind + " f (a b c d e g) 1)");
        }
    }

    /** "parameters different from one another". */
    private static void parametersAreDifferent() {
        String[] same = {
            "a a", "a a b", "a b a", "b a a", "a a b c", "a b a c", "a b c a", "b a a c", "b a c a",
            "b c a a", "abcd b abcd", "if if", "a a a a",
        };
        for (String parameters : same) {
            checkWrong("(def f (" + parameters + ") 1)");
            checkWrong("(mac f (" + parameters + ") 1)");
        }
        checkGood("(def f (a aa aaa aaaa) 1)");
        checkGood("(mac f (abcd abcz zbcd bcd) 1)");
        checkGood("(def f (f) f)");
        checkGood("(mac f (f) f)");
    }

    /** "these ... may be WORDS". */
    private static void parametersMayBeWords() {
        for (String word : WORDS) {
            checkObject("(def f (a " + word + ") " + word + ")", "1 1 102 2 0 4 1 1 13 2 0");
            Trial trial = new Trial().with("(mac m (" + word + ") (+ " + word + " 1))", "(m 5)");
            Trial.due("a macro with " + word, "0 0 0 0 8 0 0 5 0 0 1 2 14 0", trial.object(1));
        }
        // A slot of that name changes nothing where the word stands first in a list.
        checkObject("(def f (if) (if if 2 3))",
                "1 1 102 1 0 16 1 0 8 0 11 0 0 2 7 0 14 0 0 3 13 1 0");
    }

    /** "and x of let, may be WORDS". */
    private static void letMayBindWords() {
        for (String word : WORDS) {
            checkObject("(let " + word + " 5 " + word + ")", "0 0 0 0 7 0 0 5 1 0 9 14 0");
            checkObject("(let " + word + " 5 (set " + word + " 6))",
                    "0 0 0 0 10 0 0 5 0 0 6 11 0 9 14 0");
        }
    }

    /** "a list with def or mac first that ... is not the whole unit, is WRONG". */
    private static void definitionsAreWholeUnits() {
        for (String inner : new String[] {"(def g () 1)", "(mac g () 1)", "(def)", "(mac 1)"}) {
            String[] outer = {
                "(do #)", "(do # 1)", "(do 1 #)", "(+ # 1)", "(+ 1 #)", "(if # 1 1)", "(if 1 # 1)",
                "(if 1 1 #)", "(let x # 1)", "(let x 1 #)", "(let x 1 (set x #))", "(run # 1)",
                "(run 1 #)", "(f #)", "(f 1 #)", "(def f () #)", "(# 1)", "(#)",
            };
            for (String text : outer) {
                checkWrong(text.replace("#", inner));
            }
        }
    }

    /** "A number: 0 and its two bytes (16 bits, with sign, the higher one first)". */
    private static void numbersHaveSixteenBits() {
        String[] numbers = {"0", "-0", "1", "-1", "127", "128", "-128", "-129", "255", "256",
            "-255", "-256", "-257", "9999", "-9999"};
        String[] bytes = {"0 0", "0 0", "0 1", "255 255", "0 127", "0 128", "255 128", "255 127",
            "0 255", "1 0", "255 1", "255 0", "254 255", "39 15", "216 241"};
        for (int k = 0; k < numbers.length; k++) {
            checkObject(numbers[k], "0 0 0 0 4 0 " + bytes[k] + " 14 0");
        }
    }

    /** "A symbol: ... without one it is WRONG". */
    private static void symbolsNeedSlots() {
        for (String word : WORDS) {
            checkWrong(word);
            checkWrong("(do " + word + ")");
        }
        for (String text : new String[] {"a", "abcd", "+", "-", "*", "<", "=", "(do +)", "(f -)"}) {
            checkWrong(text);
        }
        checkWrong("(def f () a)");
        checkWrong("(def f (a) aa)");
        checkWrong("(def f (aa) a)");
        checkWrong("(def f (a) f)");
        checkWrong("(let x x 1)");
        checkWrong("(+ (let x 1 x) x)");
        checkWrong("(do (let x 1 x) x)");
        checkWrong("(let x (let y 1 y) y)");
        checkWrong("(if (let x 1 1) x 1)");
        checkWrong("(f (let x 1 1) x)");
        checkWrong("(run (let x 1 1) x)");
    }

    /** "(+ a b), - * < =": with another number of forms "All else is WRONG". */
    private static void pairsHaveTwoForms() {
        for (String sign : new String[] {"+", "-", "*", "<", "="}) {
            checkWrong("(" + sign + ")");
            checkWrong("(" + sign + " 1)");
            checkGood("(" + sign + " 1 1)");
            checkWrong("(" + sign + " 1 1 1)");
            checkWrong("(" + sign + " 1 1 1 1)");
            checkWrong("(" + sign + " 1 " + sign + ")");
            checkWrong("(" + sign + " 1 ())");
        }
    }

    /** The forms of if, let, do ("one form or more"), set and run. */
    private static void wordsHaveTheirForms() {
        for (int forms = 0; forms <= 5; forms++) {
            String ones = " 1".repeat(forms);
            Trial.due("if with " + forms, forms == 3, compiles("(if" + ones + ")"));
            Trial.due("run with " + forms, forms == 2, compiles("(run" + ones + ")"));
            Trial.due("do with " + forms, forms >= 1, compiles("(do" + ones + ")"));
            Trial.due("a call with " + forms, true, compiles("(f" + ones + ")"));
            Trial.due("let with x and " + forms, forms == 2, compiles("(let x" + ones + ")"));
            Trial.due("set with x and " + forms, forms == 1,
                    compiles("(let x 1 (set x" + ones + "))"));
        }
        checkWrong("(let)");
        checkWrong("(set)");
    }

    private static boolean compiles(String text) {
        int answer = new Trial().compile(text);
        Trial.due("'" + text + "' is a unit or wrong", true, answer == 0 || answer == Trial.WRONG);
        return answer == 0;
    }

    /** "(set x a): ... (WRONG without one)", "also a symbol ... that is not of letters". */
    private static void setAndLetNeedSymbols() {
        for (String other : NO_SYMBOLS_OF_LETTERS) {
            checkWrong("(let " + other + " 1 1)");
            checkWrong("(let x 1 (set " + other + " 1))");
        }
        checkWrong("(set x 1)");
        checkWrong("(def f () (set f 1))");
        checkWrong("(let x 1 (set xx 1))");
        checkWrong("(do (let x 1 1) (set x 1))");
        checkWrong("(let x (set x 1) 1)");
        checkGood("(def f (a b) (set b 1))");
    }

    /** "All else is WRONG". */
    private static void allElseIsWrong() {
        String[] texts = {
            "()", "(1)", "(-1 2)", "(1 2 3)", "(())", "(() 1)", "((f))", "((f) 1)", "((+ 1 2))",
            "((do f) 1)", "(f ())", "(do ())", "(f (1))", "(if () 1 1)", "((let x 1 x))",
        };
        for (String text : texts) {
            checkWrong(text);
        }
    }

    /** "each form puts one number into the slot behind those that are in use". */
    private static void slotsGrow() {
        checkObject("(def f (a b c d) (let e 1 e))", "1 1 102 4 0 8 0 0 1 1 4 9 13 4 0");
        checkObject("(let a 1(let b 1(let c 1(let d 1(let e 1(let f 1(let g 1(let h 1 h))))))))",
                "0 0 0 0 35" + " 0 0 1".repeat(8) + " 1 7" + " 9".repeat(8) + " 14 0");
        checkObject("(f 1 1 1 1 1 (let x 2 x))", "0 0 0 0 26" + " 0 0 1".repeat(5)
                + " 0 0 2 1 5 9 12 0 0 6 14 1 0 22 1 102");
        checkObject("(do 1 1 (let x 2 x))", "0 0 0 0 15 0 0 1 10 0 0 1 10 0 0 2 1 0 9 14 0");
        checkObject("(if 1 1 (let x 2 x))",
                "0 0 0 0 19 0 0 1 8 0 12 0 0 1 7 0 18 0 0 2 1 0 9 14 0");
        checkObject("(run 1 (let x 2 x))",
                "0 0 0 0 20 0 0 1 8 0 16 0 0 2 1 0 9 10 7 0 0 0 0 0 14 0");
        // Slots above 9 come by many forms.
        checkObject("(f" + " 1".repeat(30) + "(let x 2 x))", "0 0 0 0 101" + " 0 0 1".repeat(30)
                + " 0 0 2 1 30 9 12 0 0 31 14 1 0 97 1 102");
    }

    /** "the slot of the latest parameter or LET of it around". */
    private static void slotsAreOfTheLatestAround() {
        checkObject("(def f (x) (let x x (let x x x)))",
                "1 1 102 1 0 10 1 0 1 1 1 2 9 9 13 1 0");
        checkObject("(def f (x) (do (let x 1 (set x 2)) (set x 3)))",
                "1 1 102 1 0 17 0 0 1 0 0 2 11 1 9 10 0 0 3 11 0 13 1 0");
        checkObject("(let x 1 (do (let x 2 x) (let y 3 x)))",
                "0 0 0 0 18 0 0 1 0 0 2 1 1 9 10 0 0 3 1 0 9 9 14 0");
    }

    /** "Code has at most 200 bytes; more is WRONG." */
    private static void codeHasAtMost200() {
        String ones48 = " 1".repeat(48);
        // 48 ones of a do take 192 bytes, with what is behind each.
        checkLength("(do" + ones48 + " 1 1)", 200);
        checkWrong("(do" + ones48 + " 1(f))");
        checkWrong("(do(f)" + ones48 + " 1)");
        checkLength("(do(f)" + ones48 + ")", 197);
        checkWrong("(do" + ones48 + "(let x 1(set x 1)))");
        checkLength("(do" + ones48 + "(let x 1 x))", 199);
        checkLength("(do" + ones48 + "(+ 1 1))", 200);
        checkWrong("(do" + ones48 + " 1 1 1)");
        checkLength("(def f (a) (do" + ones48 + " 1 a))", 200);
        checkWrong("(def f (a) (do" + ones48 + " 1 1))");
        checkLength("(def f (a) (do" + ones48 + " a a))", 199);
        checkLength("(def f () (do" + ones48 + "(f)))", 198);
        checkWrong("(def f () (do" + ones48 + "(f)1))");
        checkLength("(def f (a) (do" + ones48 + "(f a)))", 200);
        checkWrong("(def f (a) (do" + ones48 + "(f 1)))");
        checkWrong("(do" + ones48 + "(if 1 1 1))");
        checkWrong("(do" + ones48 + "(run 1 1))");
    }

    private static void checkLength(String text, int due) {
        Trial trial = new Trial();
        Trial.due("'" + text + "'", 0, trial.compile(text));
        int behindName = 2 + trial.forge.object(0, 1);
        Trial.due("the higher byte for '" + text + "'", 0, trial.forge.object(0, behindName + 1));
        Trial.due("the length of '" + text + "'", due, trial.forge.object(0, behindName + 2));
    }

    /** The same by macros, which make long code of short texts. */
    private static void codeOfMacrosHasAtMost200() {
        Trial trial = new Trial().with("(mac t () (do 1 1 1 1 1 1 1 1 1 1))");
        String fives = "(t)(t)(t)(t)(t)";
        // Each of them takes 39 bytes and one for what is behind it.
        Trial.due("five", 1, trial.compile("(do" + fives + ")"));
        Trial.due("their length", 200, trial.forge.object(1, 4));
        Trial.due("five and a call", Trial.WRONG, trial.compile("(do" + fives + "(f))"));
        Trial.due("twelve", Trial.WRONG, trial.compile("(do" + fives + fives + "(t)(t))"));
        Trial.due("a function of 201", Trial.WRONG, trial.compile("(def f () (do" + fives + "))"));
    }

    /** "its name (how many letters, 0 for a main, and the letters), how many parameters". */
    private static void objectsOfNamesAndParameters() {
        checkObject("7", "0 0 0 0 4 0 0 7 14 0");
        checkObject("(def a () 7)", "1 1 97 0 0 5 0 0 7 13 0 0");
        checkObject("(def zy (a) 7)", "1 2 122 121 1 0 5 0 0 7 13 1 0");
        checkObject("(def zyx (a b) 7)", "1 3 122 121 120 2 0 5 0 0 7 13 2 0");
        checkObject("(def zyxw (a b c) 7)", "1 4 122 121 120 119 3 0 5 0 0 7 13 3 0");
        checkObject("(def aaaa (a b c d) 7)", "1 4 97 97 97 97 4 0 5 0 0 7 13 4 0");
    }

    /** "how many FIXES, and for each 12 in the code, in order". */
    private static void objectsOfManyFixes() {
        // A number 12, a slot 12 and 12 forms are no call's 12.
        checkObject("(+ 12 12)", "0 0 0 0 8 0 0 12 0 0 12 2 14 0");
        checkObject("(f 1 2 3 4 5 6 7 8 9 10 11 12)", "0 0 0 0 41 0 0 1 0 0 2 0 0 3 0 0 4 0 0 5"
                + " 0 0 6 0 0 7 0 0 8 0 0 9 0 0 10 0 0 11 0 0 12 12 0 0 12 14 1 0 37 1 102");
        checkObject("(a (bb (ccc)) (dddd))", "0 0 0 0 17 12 0 0 0 12 0 0 1 12 0 0 0 12 0 0 2 14"
                + " 4 0 1 3 99 99 99 0 5 2 98 98 0 9 4 100 100 100 100 0 13 1 97");
        Trial trial = new Trial().with("(mac c () (f (f) (f) (f) (f) (f) (f) (f) (f) (f)))");
        trial.with("(f (c) (c) (c) (c) (f) (f) (f) (f) (f) (f) (f) (f))");
        Trial.due("49 calls", 5 + 197 + 1 + 49 * 4, trial.forge.object(1, -1));
        Trial.due("the number of fixes", 49, trial.forge.object(1, 5 + 197));
        for (int fix = 0; fix < 49; fix++) {
            Trial.due("fix " + fix, 4 * fix + 1, trial.forge.object(1, 5 + 198 + 4 * fix + 1));
        }
    }

    /** "NONE if there is none, or it is a macro", "NONE if it is none such". */
    private static void objectAnswersNone() {
        int least = Integer.MIN_VALUE;
        int most = Integer.MAX_VALUE;
        Trial empty = new Trial();
        for (int unit : new int[] {least, -1, 0, 1, 15, 16, most}) {
            for (int k : new int[] {least, -2, -1, 0, 1, most}) {
                Trial.due("without units: " + unit + ", " + k, -1, empty.forge.object(unit, k));
            }
        }
        Trial trial = new Trial().with("(mac m () 1)", "-1", "(mac m () 2)");
        for (int unit : new int[] {least, -2, -1, 0, 2, 3, 15, 16, 17, most}) {
            for (int k : new int[] {least, -2, -1, 0, 1, 9, 10, most}) {
                Trial.due("unit " + unit + ", " + k, -1, trial.forge.object(unit, k));
            }
        }
        Trial.due("how many", 10, trial.forge.object(1, -1));
        Trial.due("the first", 0, trial.forge.object(1, 0));
        Trial.due("one of 255", 255, trial.forge.object(1, 6));
        Trial.due("the last but one", 14, trial.forge.object(1, 8));
        Trial.due("the last", 0, trial.forge.object(1, 9));
        for (int k : new int[] {least, least + 9, -3, -2, 10, 11, 200, 569, 570, most}) {
            Trial.due("byte " + k, -1, trial.forge.object(1, k));
        }
    }

    /** "IllegalStateException if there are 16 units"; "macros have numbers, too". */
    private static void unitsAreSixteen() {
        for (String text : new String[] {"1", "(def f () 1)", "(mac m () 1)"}) {
            Trial trial = new Trial();
            for (int number = 0; number < 16; number++) {
                Trial.due("unit " + number + " of " + text, number, trial.compile(text));
            }
            String last = trial.object(15);
            for (String more : new String[] {"2", "(def f () 2)", "(mac m () 2)", "(m)"}) {
                Trial.due(more + " behind 16 of " + text, Trial.TOO_MANY, trial.compile(more));
                Trial.due("the 16th stays", last, trial.object(15));
                Trial.due("no 17th", -1, trial.forge.object(16, -1));
            }
            trial.forge.clear();
            for (int number = 0; number < 16; number++) {
                Trial.due("anew, unit " + number + " of " + text, number, trial.compile(text));
            }
            Trial.due("anew, a 17th", Trial.TOO_MANY, trial.compile(text));
        }
        Trial wrong = new Trial();
        for (int k = 0; k < 20; k++) {
            Trial.due("a wrong one takes no number", Trial.WRONG, wrong.compile("x"));
            Trial.due("nor does no form", Trial.NO_FORM, wrong.compile("("));
        }
        Trial.due("the first number", 0, wrong.compile("1"));
    }

    /** "(The one named first, if more hold.)" */
    private static void theOneNamedFirst() {
        Trial trial = new Trial().with("(mac m (x) x)");
        for (int number = 1; number < 16; number++) {
            trial.with("(def f () 1)");
        }
        for (String text : new String[] {"", "(", "(f))", "(mac m () 1", "12345"}) {
            Trial.due("no form: '" + text + "'", Trial.NO_FORM, trial.compile(text));
        }
        String[] wrong = {
            "()", "x", "(+ 1)", "(m)", "(m 1 2)", "(def f)", "(mac m (a a) 1)", "(def if () 1)",
            "(mac mac () 1)", "(mac m (a b c d e) 1)", "(do" + " 1".repeat(51) + ")",
            "(do" + "(m 1)".repeat(13) + ")", "(do (def g () 1))",
        };
        for (String text : wrong) {
            Trial.due("wrong: '" + text + "'", Trial.WRONG, trial.compile(text));
        }
        for (String text : new String[] {"1", "(m 1)", "(def f () 1)", "(mac m () ())"}) {
            Trial.due("too many: '" + text + "'", Trial.TOO_MANY, trial.compile(text));
        }
        Trial.due("the macro is the old one", Trial.WRONG, trial.compile("(m)"));
    }

    /** "All units and macros are gone, their numbers begin anew (all else stays)." */
    private static void clearTakesUnitsAlone() {
        Trial empty = new Trial();
        empty.forge.clear();
        Trial.due("clear of nothing", "0 0 0 0 0 0", empty.about());
        Trial.due("the first number", 0, empty.compile("1"));

        Trial trial = new Trial().with("(mac m () 1)", "(def f (n) (+ (f n) 1))", "(f 6)");
        trial.link();
        trial.run(500);
        String image = trial.image();
        String machine = trial.about();
        String stack = trial.stack();
        Trial.due("a full machine", 3, trial.forge.about(0));
        trial.with("(g)");
        Trial.due("a link that fails", Trial.REFUSED, trial.link());
        Trial.due("an error", Trial.NO_FORM, trial.compile("(m A"));
        trial.type("(m");
        trial.forge.clear();
        trial.forge.clear();
        for (int unit = 0; unit < 16; unit++) {
            Trial.due("unit " + unit, -1, trial.forge.object(unit, -1));
            Trial.due("a byte of unit " + unit, -1, trial.forge.object(unit, 0));
        }
        Trial.due("the position", 3, trial.forge.position());
        Trial.due("the failure", 2, trial.forge.failure());
        Trial.due("the image", image, trial.image());
        Trial.due("the machine", machine, trial.about());
        Trial.due("the stack", stack, trial.stack());
        trial.type(" 2)");
        Trial.due("the text, and the first number", 0, trial.compile());
        Trial.due("no macro", "0 0 0 0 8 0 0 2 12 0 0 1 14 1 0 4 1 109", trial.object(0));
        trial.with("(f 1)");
        Trial.due("no function", Trial.REFUSED, trial.link());
        Trial.due("of that name", 2, trial.forge.failure());
        Trial.due("the image still", image, trial.image());
        Trial.due("restart", true, trial.forge.restart());
    }
}
