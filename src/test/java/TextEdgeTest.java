/** The edges that the document names for the text, for forms, and in promises 2 and 4. */
public final class TextEdgeTest {
    private static final int TEXT_ROOM = 120;

    public static void main(String[] args) {
        textHasNoneAtFirst();
        textHasAtMost120();
        textIsTaken();
        codesAre32To126();
        codesAreFromTheHighestOn();
        zerosTakeNoRoom();
        refusedWriteChangesNothing();
        numbersHaveOneToFourDigits();
        symbolsHaveOneToFourLetters();
        signsStandAlone();
        listsMayBeEmpty();
        blanksStandBeforeAndBehind();
        blanksStandBetween();
        listsAreEightDeep();
        errorIsTheLengthIfSomethingIsMissing();
        errorIsTheFirstPositionThatNoFormHas();
        errorIsBehindTheWholeForm();
        positionIsOfTheLatestCompile();
        Trial.end();
    }

    private static void checkForm(String text) {
        Trial trial = new Trial();
        Trial.due("'" + text + "' is a form", true, trial.compile(text) != Trial.NO_FORM);
        Trial.due("so '" + text + "' has no position", -1, trial.forge.position());
    }

    private static void checkError(String text, int position) {
        Trial trial = new Trial();
        Trial.due("'" + text + "' is no form", Trial.NO_FORM, trial.compile(text));
        Trial.due("the position in '" + text + "'", position, trial.forge.position());
    }

    /** Tells how long the text is: blanks alone have their error at their length. */
    private static void checkBlanks(String what, int length, Trial trial) {
        Trial.due(what + ": no form", Trial.NO_FORM, trial.compile());
        Trial.due(what + ": the length", length, trial.forge.position());
    }

    /** "THE TEXT ..., at first none". */
    private static void textHasNoneAtFirst() {
        checkBlanks("a new text", 0, new Trial());
    }

    /** "THE TEXT has at most 120 characters", "False, ... more than there is room for". */
    private static void textHasAtMost120() {
        for (int written = 0; written <= TEXT_ROOM; written++) {
            int room = TEXT_ROOM - written;
            for (int count = Math.max(0, Math.min(room, 8) - 1); count <= 8; count++) {
                Trial trial = new Trial();
                trial.type(" ".repeat(written));
                Trial.due(count + " behind " + written, count <= room,
                        trial.forge.write(Trial.packed(" ".repeat(count))));
                checkBlanks(count + " behind " + written,
                        count <= room ? written + count : written, trial);
            }
        }
    }

    /** "a call that TAKES it leaves it empty, also when it throws". */
    private static void textIsTaken() {
        Trial trial = new Trial();
        Trial.due("a unit", 0, trial.compile("1"));
        checkBlanks("behind a unit", 0, trial);
        Trial.due("no form", Trial.NO_FORM, trial.compile("(1"));
        checkBlanks("behind no form", 0, trial);
        Trial.due("a wrong form", Trial.WRONG, trial.compile("(+)"));
        checkBlanks("behind a wrong form", 0, trial);
        for (int number = 1; number < 16; number++) {
            Trial.due("one unit more", number, trial.compile("1"));
        }
        Trial.due("a 17th unit", Trial.TOO_MANY, trial.compile("1"));
        checkBlanks("behind a 17th unit", 0, trial);
        for (String text : new String[] {"1", "(1", "(+)"}) {
            trial.type(text);
            trial.compile();
            trial.type(" ".repeat(TEXT_ROOM));
            Trial.due("no more than 120 behind '" + text + "'", false, trial.forge.write(' '));
            checkBlanks("the room behind '" + text + "'", TEXT_ROOM, trial);
        }
    }

    /** "False, changing nothing, if one of the others is not 32 .. 126". */
    private static void codesAre32To126() {
        for (int shift = 0; shift < 64; shift += 8) {
            long others = 0x2020202020202020L & ~(0xFFL << shift);
            for (int code : new int[] {1, 9, 10, 31, 127, 128, 160, 254, 255}) {
                Trial trial = new Trial();
                Trial.due("code " + code + " at " + shift, false,
                        trial.forge.write(others | (long) code << shift));
                checkBlanks("code " + code + " at " + shift, 0, trial);
            }
            Trial lowest = new Trial();
            Trial.due("code 32 at " + shift, true, lowest.forge.write(others | 32L << shift));
            checkBlanks("code 32 at " + shift, 8, lowest);
            Trial highest = new Trial();
            Trial.due("code 126 at " + shift, true, highest.forge.write(others | 126L << shift));
            checkBlanks("where code 126 stands", 7 - shift / 8, highest);
        }
    }

    /** "the eight bytes of w from the highest on". */
    private static void codesAreFromTheHighestOn() {
        Trial trial = new Trial();
        Trial.due("all eight bytes", true, trial.forge.write(0x286162636420312CL));
        Trial.due("no form", Trial.NO_FORM, trial.compile());
        Trial.due("the lowest byte is the last", 7, trial.forge.position());
        Trial.due("eight that are a form", true, trial.forge.write(0x286162636420_3129L));
        Trial.due("compiles", 0, trial.compile());
        Trial.due("in this order", "0 0 0 0 8 0 0 1 12 0 0 1 14 1 0 4 4 97 98 99 100",
                trial.object(0));
        Trial.due("a byte with its highest bit", false, trial.forge.write(Long.MIN_VALUE));
        Trial.due("the greatest w", false, trial.forge.write(Long.MAX_VALUE));
        checkBlanks("behind these", 0, trial);
    }

    /** "but for those that are 0: true". */
    private static void zerosTakeNoRoom() {
        Trial trial = new Trial();
        Trial.due("none at all", true, trial.forge.write(0));
        checkBlanks("none at all", 0, trial);
        trial.type(" ".repeat(117));
        Trial.due("four where three fit", false, trial.forge.write(0x2000200020002000L));
        Trial.due("three with zeros between", true, trial.forge.write(0x0020000020000020L));
        Trial.due("none where none fits", true, trial.forge.write(0));
        Trial.due("one where none fits", false, trial.forge.write(0x20L << 56));
        checkBlanks("three behind 117", TEXT_ROOM, trial);
    }

    /** "False, changing nothing": neither the text nor anything else. */
    private static void refusedWriteChangesNothing() {
        Trial trial = new Trial().with("7");
        trial.link();
        trial.run(1);
        Trial.due("an error before", Trial.NO_FORM, trial.compile("(f A)"));
        trial.type("(+ 1");
        Trial.due("good ones before a bad one", false, trial.forge.write(0x203939397F000000L));
        Trial.due("a bad one at the end", false, trial.forge.write(0x203939393939391FL));
        Trial.due("the position stays", 3, trial.forge.position());
        Trial.due("the machine stays", "1 3 0 1 0 1", trial.about());
        trial.type(" 2)" + " ".repeat(112));
        Trial.due("more than fit, and a bad one", false, trial.forge.write(0x2020202020202001L));
        Trial.due("more than fit", false, trial.forge.write(Trial.packed("))")));
        Trial.due("one fits", true, trial.forge.write(' '));
        Trial.due("the text has only the good ones", 1, trial.compile());
        Trial.due("its object", "0 0 0 0 8 0 0 1 0 0 2 2 14 0", trial.object(1));
    }

    /** "a NUMBER (perhaps -, then 1 to 4 digits)". */
    private static void numbersHaveOneToFourDigits() {
        for (String sign : new String[] {"", "-"}) {
            for (String digits : new String[] {"0", "9", "00", "99", "999", "0000", "9999"}) {
                Trial trial = new Trial();
                Trial.due(sign + digits, 0, trial.compile(sign + digits));
            }
            checkError(sign + "00000", sign.length() + 4);
            checkError(sign + "99999", sign.length() + 4);
            checkError("(f " + sign + "12345)", 3 + sign.length() + 4);
            checkError(sign + "/", sign.length());
            checkError(sign + ":", sign.length());
            checkError(sign + "1/", sign.length() + 1);
            checkError(sign + "1:", sign.length() + 1);
        }
        checkForm("-");
        checkError("-)", 1);
        checkError("--1", 1);
        checkError("+1", 1);
        checkError("- 1", 2);
    }

    /** "a SYMBOL (1 to 4 letters a .. z, ...". */
    private static void symbolsHaveOneToFourLetters() {
        for (String letters : new String[] {"a", "z", "az", "zaz", "aaaa", "zzzz"}) {
            checkForm(letters);
            checkForm("(" + letters + ")");
        }
        checkError("aaaaa", 4);
        checkError("zzzzz", 4);
        checkError("(abcde)", 5);
        for (char other : new char[] {'`', '{', 'A', 'Z', '@', '['}) {
            checkError("" + other, 0);
            checkError("(a" + other + ")", 2);
            checkError("(f abc" + other, 6);
        }
    }

    /** "or one of + - * < =". */
    private static void signsStandAlone() {
        for (char sign : "+-*<=".toCharArray()) {
            checkForm("" + sign);
            checkForm("(" + sign + ")");
            checkError("(" + sign + sign + ")", 2);
            checkError("(" + sign + "a)", 2);
            checkError("(a" + sign + ")", 2);
            checkError("(1" + sign + ")", 2);
        }
        for (char other : "!\"#$%&',./:;>?@[\\]^_|}~".toCharArray()) {
            checkError("" + other, 0);
        }
    }

    /** "or a LIST: (, forms, also none, )". */
    private static void listsMayBeEmpty() {
        checkForm("()");
        checkForm("(   )");
        checkForm("(()())");
        Trial trial = new Trial();
        Trial.due("no parameters", 0, trial.compile("(def f () 1)"));
        Trial.due("a macro's body", 1, trial.compile("(mac m () ())"));
        Trial.due("a body to be compiled", Trial.WRONG, trial.compile("()"));
    }

    /** "Blanks may stand before and behind each of these". */
    private static void blanksStandBeforeAndBehind() {
        String narrow = "(def f(a)(+ a(f -1)))";
        String wide = "  (  def  f  (  a  )  (  +  a  (  f  -1  )  )  )  ";
        Trial trial = new Trial().with(narrow, wide);
        Trial.due("the same object", trial.object(0), trial.object(1));
        Trial.due("which is", "1 1 102 1 0 12 1 0 0 255 255 12 0 0 1 2 13 1 1 0 6 1 102",
                trial.object(0));
        for (String form : new String[] {"1", "-1", "(f)"}) {
            Trial.due("blanks before", 0, new Trial().compile("   " + form));
            Trial.due("blanks behind", 0, new Trial().compile(form + "   "));
            Trial.due("a whole text", 0,
                    new Trial().compile(" ".repeat(TEXT_ROOM - form.length()) + form));
            Trial.due("a whole text, too", 0,
                    new Trial().compile(form + " ".repeat(TEXT_ROOM - form.length())));
        }
        checkError("(f - 1 2 3 4 5-)", 14);
    }

    /** "two that are not lists need one between". */
    private static void blanksStandBetween() {
        String[] atoms = {"1", "-1", "9999", "a", "abcd", "+", "*", "<", "="};
        for (String left : atoms) {
            for (String right : new String[] {"-1", "+", "*", "<", "=", "-"}) {
                checkError("(f " + left + right + ")", 3 + left.length());
                checkForm("(f " + left + " " + right + ")");
            }
            checkForm("(f " + left + "(g)" + left + ")");
            checkForm("(f(g)" + left + "(h))");
            checkForm("(f()" + left + "()())");
        }
        checkError("(f 1a)", 4);
        checkError("(f a1)", 4);
        checkError("(f -a)", 4);
    }

    /** "Lists are at most 8 deep in one another", "a ( that is too deep is such a position". */
    private static void listsAreEightDeep() {
        for (int depth = 1; depth <= 8; depth++) {
            checkForm("(".repeat(depth) + ")".repeat(depth));
            checkError("(".repeat(depth), depth);
        }
        checkError("(((((((((", 8);
        checkError("((((((((()))))))))", 8);
        checkError("( ( ( ( ( ( ( ( ( ", 16);
        checkForm("((((((( () () () )))))))");
        checkError("((((((( () (()) )))))))", 12);
        checkError("(((((((())))))) ((((((((", 23);
        Trial trial = new Trial();
        Trial.due("eight that compile", 0, trial.compile("(do(do(do(do(do(do(do(do 1))))))))"));
        Trial.due("nine", Trial.NO_FORM, trial.compile("(do(do(do(do(do(do(do(do(do 1)))))))))"));
        Trial.due("the ninth", 24, trial.forge.position());
        Trial.due("a def is a list, too", 1,
                trial.compile("(def f()(do(do(do(do(do(do(do 1))))))))"));
        Trial.due("nine with a def", Trial.NO_FORM,
                trial.compile("(def f()(do(do(do(do(do(do(do(do 1)))))))))"));
        Trial.due("the ninth of these", 29, trial.forge.position());
    }

    /** "the length, if only something is missing": no beginning of a list is a form. */
    private static void errorIsTheLengthIfSomethingIsMissing() {
        String text = "(def ab (x) (if (< x -12) (ab (- x 1)) 3456))";
        for (int length = 0; length < text.length(); length++) {
            checkError(text.substring(0, length), length);
        }
        checkForm(text);
        for (int blanks = 0; blanks <= TEXT_ROOM; blanks++) {
            checkError(" ".repeat(blanks), blanks);
        }
        checkError("(" + " ".repeat(119), TEXT_ROOM);
        checkError(" ".repeat(112) + "((((((((", TEXT_ROOM);
    }

    /** "an ERROR at the first position that no form has that begins as the text does". */
    private static void errorIsTheFirstPositionThatNoFormHas() {
        String text = "(def ab (x) (if (< x -12) (ab (- x 1)) 3456))";
        for (int length = 0; length <= text.length(); length++) {
            checkError(text.substring(0, length) + "?", length);
            checkError(text.substring(0, length) + "?)(?", length);
        }
        checkError(" ".repeat(119) + ")", 119);
        checkError("(f" + " ".repeat(117) + ".", 119);
    }

    /** "A text is one form". */
    private static void errorIsBehindTheWholeForm() {
        for (String whole : new String[] {"1", "-12", "ab", "+", "()", "(f 1)"}) {
            for (String next : new String[] {"1", "a", "-", "*", "(", ")", "()"}) {
                checkError(whole + " " + next, whole.length() + 1);
                checkError("  " + whole + "   " + next, whole.length() + 5);
            }
            checkError(whole + ")", whole.length());
            checkError(whole + "(", whole.length());
        }
    }

    /** "The position of the error, if compile threw IllegalArgumentException latest; else NONE." */
    private static void positionIsOfTheLatestCompile() {
        Trial trial = new Trial();
        Trial.due("at first", -1, trial.forge.position());
        trial.compile("(f ?");
        Trial.due("behind one error", 3, trial.forge.position());
        Trial.due("asked again", 3, trial.forge.position());
        trial.compile("?");
        Trial.due("behind another", 0, trial.forge.position());
        trial.compile("()");
        Trial.due("behind a wrong one", -1, trial.forge.position());
        trial.compile("((");
        Trial.due("an error again", 2, trial.forge.position());
        Trial.due("run throws IllegalArgumentException, too", Trial.REFUSED, trial.run(501));
        Trial.due("but is no compile", 2, trial.forge.position());
        trial.with("1");
        Trial.due("behind a good one", -1, trial.forge.position());
        for (int number = 1; number < 16; number++) {
            trial.with("1");
        }
        trial.compile("1 1");
        Trial.due("with 16 units", 2, trial.forge.position());
        Trial.due("a 17th", Trial.TOO_MANY, trial.compile("1"));
        Trial.due("behind a 17th", -1, trial.forge.position());
    }
}
