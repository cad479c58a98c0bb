/** The edges that the document names for linking, and in promises 7, 8 and 9. */
public final class LinkEdgeTest {
    private static final int LEAST = Integer.MIN_VALUE;
    private static final int MOST = Integer.MAX_VALUE;

    public static void main(String[] args) {
        failsWithoutMain();
        failsAtTheFirstFixWithoutFunction();
        failsAtAnotherNumberOfParameters();
        failsAtTheFirstFixMet();
        failsAbove600();
        failsAbove600OnlyIfNothingElse();
        countsOnlyWhatIsCalled();
        takesWhatIsCalledOnce();
        takesTheLatest();
        takesAllSixteen();
        ordersAsNamesAreMet();
        placesGrow();
        failureAtFirst();
        failureIsOfTheLatestLink();
        failedLinkChangesNothing();
        goodLinkBeginsAnew();
        imageAnswersNone();
        imageIsNotTheUnits();
        Trial.end();
    }

    private static void checkFailure(int due, String... units) {
        Trial trial = new Trial().with(units);
        String what = String.join(" ", units);
        Trial.due("link of " + what + " throws", due != 0, trial.link() == Trial.REFUSED);
        Trial.due("failure of " + what, due, trial.forge.failure());
        Trial.due("an image of " + what, due == 0, trial.forge.image(-1) > 0);
        Trial.due("the machine behind " + what, due == 0 ? 1 : 0, trial.forge.about(0));
    }

    /** Its code has 4 bytes for each of the ones, and 1 more. */
    private static String longFunction(String name, int ones) {
        return "(def " + name + " () (do" + " 1".repeat(ones) + "))";
    }

    /** "1 if there is no main". */
    private static void failsWithoutMain() {
        checkFailure(1);
        checkFailure(1, "(def f () 1)");
        checkFailure(1, "(mac m () 1)");
        checkFailure(1, "(def f () (g))", "(mac m () (g))", "(def h (a) (h))");
        checkFailure(0, "1");
        checkFailure(0, "1", "(def f () 1)", "(mac m () 1)");
        Trial trial = new Trial().with("1");
        trial.forge.clear();
        Trial.due("a main that is gone", Trial.REFUSED, trial.link());
        Trial.due("is none", 1, trial.forge.failure());
        trial.compile("(+ 1)");
        trial.compile("(1");
        Trial.due("nor is a wrong one", Trial.REFUSED, trial.link());
        Trial.due("or one that is no form", 1, trial.forge.failure());
    }

    /** "2 at the first fix met that names no function". */
    private static void failsAtTheFirstFixWithoutFunction() {
        checkFailure(2, "(f)");
        checkFailure(2, "(f 1)");
        checkFailure(2, "(f 1 1 1 1 1)");
        checkFailure(2, "(def ff () 1)", "(f)");
        checkFailure(2, "(def f () 1)", "(ff)");
        checkFailure(2, "(def abcd () 1)", "(bcd)");
        checkFailure(2, "(def abcd () 1)", "(abce)");
        checkFailure(2, "(f)", "(mac f () 1)");
        checkFailure(2, "(def f () (g))", "(f)");
        checkFailure(2, "(def g () (h))", "(def f () (g))", "(f)");
        checkFailure(0, "(f)", "(def f () 1)");
        checkFailure(0, "(def f () (g))", "(f)", "(def g () 1)");
    }

    /** "3 or one with another number of parameters". */
    private static void failsAtAnotherNumberOfParameters() {
        String[] parameters = {"", "a", "a b", "a b c", "a b c d"};
        for (int due = 0; due <= 4; due++) {
            for (int count = 0; count <= 6; count++) {
                String function = "(def f (" + parameters[due] + ") 1)";
                String call = "(f" + " 1".repeat(count) + ")";
                checkFailure(count == due ? 0 : 3, function, call);
                checkFailure(count == due ? 0 : 3, function, "(def g () " + call + ")", "(g)");
            }
        }
        // The same function met again is looked at again.
        checkFailure(3, "(def f (a) a)", "(+ (f 1) (f))");
        checkFailure(3, "(def f (a) (f))", "(f 1)");
        checkFailure(3, "(def f (a) a)", "(def g () (f))", "(+ (f 1) (g))");
    }

    /** The first one met, of 2 and 3; a main's fixes are met before its functions'. */
    private static void failsAtTheFirstFixMet() {
        checkFailure(2, "(def f () 1)", "(+ (g) (f 1))");
        checkFailure(3, "(def f () 1)", "(+ (f 1) (g))");
        checkFailure(2, "(def f () 1)", "(f (g))");
        checkFailure(3, "(def f () 1)", "(g (f 1))");
        checkFailure(3, "(def f () (x))", "(+ (f) (f 1))");
        checkFailure(2, "(def f () (f 1))", "(+ (f) (x))");
        checkFailure(2, "(def f () (x))", "(def g () (g 1))", "(+ (f) (g))");
        checkFailure(3, "(def f () (x))", "(def g () (g 1))", "(+ (g) (f))");
        checkFailure(3, "(def f () (h))", "(def h () (x))", "(def g () (g 1))", "(+ (f) (g))");
    }

    /** "4, ... if all have more than 600 bytes". */
    private static void failsAbove600() {
        // 21 of the main and twice 197 leave 185 of 600.
        Trial trial = new Trial().with(longFunction("f", 49), longFunction("g", 49));
        trial.with("(def h (a b) (do" + " 1".repeat(44) + "(h a b)))", "(do (f) (g) (h 1 1))");
        Trial.due("one of 186 more", Trial.REFUSED, trial.link());
        Trial.due("makes 601", 4, trial.forge.failure());
        Trial.due("no image of these", 0, trial.forge.image(-1));
        trial.with("(def h (a b) (do" + " 1".repeat(45) + " 9))");
        Trial.due("one of 185 more", 600, trial.link());
        Trial.due("makes 600", 0, trial.forge.failure());
        Trial.due("the length", 600, trial.forge.image(-1));
        Trial.due("the last byte", 2, trial.forge.image(599));
        Trial.due("one behind", -1, trial.forge.image(600));
        trial.run(500);
        Trial.due("it runs to its end", 2, trial.forge.about(0));
        Trial.due("with its result", 9, trial.forge.top());
        trial.with("(def h (a b) (do" + " 1".repeat(45) + " a))");
        Trial.due("one of 184 more", 599, trial.link());
        trial.with("(def h (a b) (do" + " 1".repeat(44) + "(h a b)))");
        Trial.due("one of 186 again", Trial.REFUSED, trial.link());
        Trial.due("makes 601 again", 4, trial.forge.failure());
        Trial.due("the image of 599 stays", 599, trial.forge.image(-1));
    }

    /** "4, if none of these". */
    private static void failsAbove600OnlyIfNothingElse() {
        String[] units = {longFunction("f", 49), longFunction("g", 49), longFunction("h", 49),
            longFunction("i", 49)};
        Trial trial = new Trial().with(units).with("(do (f) (g) (h) (i))");
        Trial.due("long", Trial.REFUSED, trial.link());
        Trial.due("is 4", 4, trial.forge.failure());
        trial.with("(do (f) (g) (h) (i) (x))");
        Trial.due("long, without a function", Trial.REFUSED, trial.link());
        Trial.due("is 2", 2, trial.forge.failure());
        trial.with("(do (f) (g) (h) (i) (f 1))");
        Trial.due("long, with another number", Trial.REFUSED, trial.link());
        Trial.due("is 3", 3, trial.forge.failure());
        trial.with("(def i () (x))", "(do (f) (g) (h) (i))");
        Trial.due("long, a called one without", Trial.REFUSED, trial.link());
        Trial.due("is 2, too", 2, trial.forge.failure());
        trial.forge.clear();
        trial.with(units);
        Trial.due("long, without a main", Trial.REFUSED, trial.link());
        Trial.due("is 1", 1, trial.forge.failure());
    }

    /** "as far as they are called from it, called ones by called ones too". */
    private static void countsOnlyWhatIsCalled() {
        Trial trial = new Trial();
        for (char name = 'a'; name < 'o'; name++) {
            trial.with(longFunction("" + name, 49));
        }
        trial.with("(def o () (x (x 1)))", "7");
        Trial.due("nothing is called", 4, trial.link());
        Trial.due("the image", "0 0 7 14", trial.image());
        checkFailure(0, "(def f () (g))", "(def h () (f 1))", "1");
        checkFailure(0, "(f)", "1");
        checkFailure(0, "(mac m () (f))", "1");
    }

    /** "What is called more than once is there once." */
    private static void takesWhatIsCalledOnce() {
        Trial trial = new Trial().with("(def f () (g))", "(def g () (f))", "(+ (f) (+ (g) (f)))");
        Trial.due("each other's", 15 + 6 + 6, trial.link());
        Trial.due("the image", "12 0 15 0 12 0 21 0 12 0 15 0 2 2 14 12 0 21 0 13 0"
                + " 12 0 15 0 13 0", trial.image());
        trial.with("(def f () (+ (f) (f)))", "(f)");
        Trial.due("its own", 5 + 11, trial.link());
        Trial.due("the image of its own", "12 0 5 0 14 12 0 5 0 12 0 5 0 2 13 0", trial.image());
    }

    /** "takes the latest main and for each name the latest function of it". */
    private static void takesTheLatest() {
        Trial trial = new Trial();
        for (int number = 1; number <= 4; number++) {
            trial.with("(def f () " + number + ")", "(f)", "(def f () " + 10 * number + ")");
            Trial.due("link " + number, 10, trial.link());
            Trial.due("image " + number, "12 0 5 0 14 0 0 " + 10 * number + " 13 0", trial.image());
        }
        trial.with("(def f (a) a)");
        Trial.due("the latest has one parameter", Trial.REFUSED, trial.link());
        Trial.due("an older one is not taken", 3, trial.forge.failure());
        trial.with("(f 5)");
        Trial.due("the latest main", 12, trial.link());
        trial.with("5");
        Trial.due("a main that calls nothing", 4, trial.link());
    }

    /** As many units as there can be, each called by the one before. */
    private static void takesAllSixteen() {
        Trial trial = new Trial().with("(a)");
        for (char name = 'a'; name < 'o'; name++) {
            trial.with("(def " + name + " () (" + (char) (name + 1) + "))");
        }
        trial.with("(def o () 5)");
        Trial.due("a 17th", Trial.TOO_MANY, trial.compile("6"));
        Trial.due("link", 5 + 14 * 6 + 5, trial.link());
        Trial.due("the last one's beginning", 5 + 14 * 6, trial.forge.image(5 + 13 * 6 + 2));
        Trial.due("steps", 32, trial.run(500));
        Trial.due("done", 2, trial.forge.about(0));
        Trial.due("the result", 5, trial.forge.top());
    }

    /** "in the order in which their names are met in the fixes, main's first". */
    private static void ordersAsNamesAreMet() {
        Trial trial = new Trial().with("(def a () 1)", "(def b () (a))", "(def c () (d))",
                "(def d () 4)", "(+ (c) (b))");
        Trial.due("link", 10 + 6 + 6 + 5 + 5, trial.link());
        Trial.due("c, b, then d of c, a of b", "12 0 10 0 12 0 16 0 2 14"
                + " 12 0 22 0 13 0 12 0 27 0 13 0 0 0 4 13 0 0 0 1 13 0", trial.image());
        trial.with("(c (b) (b))");
        trial.with("(def c (x y) x)");
        Trial.due("an argument's call comes first", 13 + 6 + 4 + 5, trial.link());
        Trial.due("b, c, then a of b", "12 0 13 0 12 0 13 0 12 0 19 2 14"
                + " 12 0 23 0 13 0 1 0 13 2 0 0 1 13 0", trial.image());
    }

    /** "All places in 7 and 8 grow by where the unit begins": also over 255 and to the end. */
    private static void placesGrow() {
        Trial trial = new Trial().with(longFunction("f", 49), "(def g (a) (run a (if a 7 8)))");
        trial.with("(do (f) (g 12))");
        Trial.due("link", 13 + 197 + 28, trial.link());
        checkImage(trial, 210, "1 0 8 0 233 1 0 8 0 226 0 0 7 7 0 229 0 0 8 10 7 0 210"
                + " 0 0 0 13 1");
        trial.with(longFunction("h", 10), "(do (f) (h) (g 12))");
        Trial.due("link with one more", 18 + 197 + 41 + 28, trial.link());
        checkImage(trial, 256, "1 0 8 1 23 1 0 8 1 16 0 0 7 7 1 19 0 0 8 10 7 1 0 0 0 0 13 1");
        Trial.due("the call's place, higher", 1, trial.forge.image(14));
        Trial.due("the call's place, lower", 0, trial.forge.image(15));
        Trial.due("the unit itself stays", 0, trial.forge.object(1, 9));
        Trial.due("with its own place", 23, trial.forge.object(1, 10));
    }

    private static void checkImage(Trial trial, int from, String due) {
        StringBuilder found = new StringBuilder();
        for (int k = from; k < trial.forge.image(-1); k++) {
            found.append(k == from ? "" : " ").append(trial.forge.image(k));
        }
        Trial.due("the image from " + from, due, found.toString());
    }

    /** "0 if it did not, or there was none". */
    private static void failureAtFirst() {
        Trial trial = new Trial();
        Trial.due("no link", 0, trial.forge.failure());
        trial.compile("(");
        trial.compile("(x)");
        trial.run(501);
        trial.forge.restart();
        Trial.due("still none", 0, trial.forge.failure());
    }

    /** "Why the latest link failed, 1 .. 4". */
    private static void failureIsOfTheLatestLink() {
        Trial trial = new Trial();
        trial.link();
        Trial.due("no main", 1, trial.forge.failure());
        Trial.due("asked again", 1, trial.forge.failure());
        trial.with("(f)");
        Trial.due("until the next link", 1, trial.forge.failure());
        trial.link();
        Trial.due("no function", 2, trial.forge.failure());
        trial.with("(def f (a) a)");
        trial.link();
        Trial.due("another number", 3, trial.forge.failure());
        trial.with("(f 1)");
        trial.compile("(f");
        trial.run(-1);
        trial.run(1);
        trial.forge.restart();
        Trial.due("no other call changes it", 3, trial.forge.failure());
        trial.link();
        Trial.due("a good link", 0, trial.forge.failure());
        trial.forge.clear();
        Trial.due("clear does not change it", 0, trial.forge.failure());
        trial.link();
        Trial.due("no main again", 1, trial.forge.failure());
        trial.with("1");
        trial.link();
        Trial.due("a good link again", 0, trial.forge.failure());
    }

    /** "IllegalStateException if it fails (image and machine stay)". */
    private static void failedLinkChangesNothing() {
        String[] good = {"7", "(run 1 1)", "(f)", "(+ 1 2)"};
        int[] steps = {500, 5, 500, 0};
        int[] states = {2, 1, 3, 1};
        String[] bad = {"(x)", "(f 1)", "(do (f) (x))", "(do (a) (b) (c) (d))"};
        for (int k = 0; k < good.length; k++) {
            Trial trial = new Trial().with("(def f () (+ 1 (f)))", good[k]);
            trial.link();
            trial.run(steps[k]);
            Trial.due("the state of " + good[k], states[k], trial.forge.about(0));
            String image = trial.image();
            String machine = trial.about();
            String stack = trial.stack();
            for (char name = 'a'; name < 'e'; name++) {
                trial.with(longFunction("" + name, 49));
            }
            for (String main : bad) {
                trial.with(main);
                Trial.due("link of " + main, Trial.REFUSED, trial.link());
                Trial.due("the image of " + good[k], image, trial.image());
                Trial.due("the machine of " + good[k], machine, trial.about());
                Trial.due("the stack of " + good[k], stack, trial.stack());
            }
            Trial.due("the last failed by 4", 4, trial.forge.failure());
        }
        Trial idle = new Trial().with("(x)");
        Trial.due("a first link that fails", Trial.REFUSED, idle.link());
        Trial.due("no image", 0, idle.forge.image(-1));
        Trial.due("no byte", -1, idle.forge.image(0));
        Trial.due("idle", "0 0 0 0 0 0", idle.about());
    }

    /** "and the machine is at its beginning", also of the same image. */
    private static void goodLinkBeginsAnew() {
        Trial trial = new Trial().with("(def f () (+ 1 (f)))", "(f)");
        for (int steps : new int[] {0, 1, 5, 500}) {
            Trial.due("link", 5 + 10, trial.link());
            Trial.due("the beginning", "1 0 0 0 0 0", trial.about());
            Trial.due("no number", 0, trial.forge.stack(0));
            Trial.due("no uppermost", 0, trial.forge.top());
            trial.run(steps);
        }
        Trial.due("full", 3, trial.forge.about(0));
        trial.with("7");
        Trial.due("another one", 4, trial.link());
        Trial.due("the beginning of it", "1 0 0 0 0 0", trial.about());
        Trial.due("its steps", 2, trial.run(500));
        Trial.due("link when done", 4, trial.link());
        Trial.due("the beginning again", "1 0 0 0 0 0", trial.about());
    }

    /** "Byte k of the image; NONE if there is none. How many it has if k is -1." */
    private static void imageAnswersNone() {
        Trial trial = new Trial();
        for (int k : new int[] {LEAST, -2, 0, 1, 599, 600, MOST}) {
            Trial.due("without image, byte " + k, -1, trial.forge.image(k));
        }
        Trial.due("none has no bytes", 0, trial.forge.image(-1));
        trial.with("-1");
        trial.link();
        Trial.due("how many", 4, trial.forge.image(-1));
        Trial.due("the first", 0, trial.forge.image(0));
        Trial.due("255 is not NONE", 255, trial.forge.image(1));
        Trial.due("the last", 14, trial.forge.image(3));
        for (int k : new int[] {LEAST, LEAST + 3, -3, -2, 4, 5, 599, 600, 601, MOST - 1, MOST}) {
            Trial.due("byte " + k, -1, trial.forge.image(k));
        }
    }

    /** The image is what the latest good link made, whatever units come and go. */
    private static void imageIsNotTheUnits() {
        Trial trial = new Trial().with("(def f () 1)", "(f)");
        trial.link();
        String image = trial.image();
        trial.with("(def f () 2)", "9");
        Trial.due("newer units", image, trial.image());
        trial.forge.clear();
        Trial.due("no units", image, trial.image());
        Trial.due("runs", 4, trial.run(500));
        Trial.due("the old function", 1, trial.forge.top());
        Trial.due("a run changes nothing", image, trial.image());
        trial.forge.restart();
        Trial.due("nor does restart", image, trial.image());
    }
}
