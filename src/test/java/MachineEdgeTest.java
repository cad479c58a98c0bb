/** The edges that the document names for the machine, and in promises 1 and 10 to 14. */
public final class MachineEdgeTest {
    private static final int LEAST = Integer.MIN_VALUE;
    private static final int MOST = Integer.MAX_VALUE;

    // 8192 * 8192 * 32 is 2 to the 31st, one above the greatest int.
    private static final String LEAST_NUMBER = "(* (* 8192 8192) 32)";
    // Each call but the last needs five numbers, and two more for the next one's argument.
    private static final String FOUR_MORE =
            "(def f (n) (if n (+ 1 (+ 1 (+ 1 (+ 1 (f (- n 1)))))) 1))";

    public static void main(String[] args) {
        newObjectHasNothing();
        newObjectIsIdle();
        numbersHaveASign();
        sumsWrap();
        comparisonsDoNotWrap();
        onlyZeroGoes();
        stackHas120();
        stackIsFullByANumber();
        stackIsFullByASlot();
        callStackHas24();
        callStackIsFull();
        fullIsForGood();
        doneStays();
        callsWithoutParameters();
        callsWithFourParameters();
        slotsAreOfTheFrame();
        loopsGoBack();
        runRefuses();
        runCountsTheLastStep();
        runMakesNoStepUnlessRunning();
        restartNeedsAnImage();
        restartInEachState();
        stepsAreCounted();
        aboutAnswersNone();
        stackAnswersZero();
        topAnswersZero();
        Trial.end();
    }

    private static Trial linked(String... units) {
        Trial trial = new Trial().with(units);
        Trial.due("links", true, trial.link() > 0);
        return trial;
    }

    private static void checkResult(int due, String... units) {
        Trial trial = linked(units);
        trial.run(500);
        String what = String.join(" ", units);
        Trial.due("done: " + what, 2, trial.forge.about(0));
        Trial.due("one number: " + what, 1, trial.forge.about(3));
        Trial.due("result of " + what, due, trial.forge.top());
    }

    /** "No text, units, macros, image". */
    private static void newObjectHasNothing() {
        Trial trial = new Trial();
        for (int k = -1; k <= 1; k++) {
            Trial.due("no object, " + k, -1, trial.forge.object(0, k));
            Trial.due("no image, " + k, k == -1 ? 0 : -1, trial.forge.image(k));
        }
        Trial.due("no text", Trial.NO_FORM, trial.compile());
        Trial.due("not even a blank", 0, trial.forge.position());
        Trial.due("no main", Trial.REFUSED, trial.link());
        Trial.due("no unit before the first", 0, trial.compile("(m)"));
        Trial.due("no macro", "0 0 0 0 5 12 0 0 0 14 1 0 1 1 109", trial.object(0));
    }

    /** "the machine is idle". */
    private static void newObjectIsIdle() {
        Trial trial = new Trial();
        Trial.due("about", "0 0 0 0 0 0", trial.about());
        Trial.due("run(500)", 0, trial.run(500));
        Trial.due("run(0)", 0, trial.run(0));
        Trial.due("restart", false, trial.forge.restart());
        Trial.due("about behind these", "0 0 0 0 0 0", trial.about());
        Trial.due("units are not enough", 0, trial.with("1").forge.about(0));
        Trial.due("nor to run", 0, trial.run(500));
        Trial.due("nor to restart", false, trial.forge.restart());
    }

    /** "0: the number is put on", 16 bits with a sign. */
    private static void numbersHaveASign() {
        for (int number : new int[] {0, 1, -1, 127, 128, -128, -129, 255, 256, -255, -256, -257,
            9999, -9999}) {
            checkResult(number, "" + number);
        }
    }

    /** "x + y, x - y, x * y (they wrap)". */
    private static void sumsWrap() {
        checkResult(LEAST, LEAST_NUMBER);
        checkResult(MOST, "(- " + LEAST_NUMBER + " 1)");
        checkResult(LEAST, "(+ (- " + LEAST_NUMBER + " 1) 1)");
        checkResult(MOST, "(+ " + LEAST_NUMBER + " -1)");
        checkResult(LEAST, "(- 0 " + LEAST_NUMBER + ")");
        checkResult(LEAST, "(* " + LEAST_NUMBER + " -1)");
        checkResult(0, "(let x " + LEAST_NUMBER + " (+ x x))");
        checkResult(0, "(let x " + LEAST_NUMBER + " (* x x))");
        checkResult(-2, "(let x (- " + LEAST_NUMBER + " 1) (+ x x))");
        checkResult(1, "(let x (- " + LEAST_NUMBER + " 1) (* x x))");
        checkResult(-1, "(let x " + LEAST_NUMBER + " (- (- x 1) x))");
        checkResult(0, "(* (* (* 256 256) 256) 256)");
    }

    /** "x < y, x = y (1 or 0)". */
    private static void comparisonsDoNotWrap() {
        checkResult(1, "(< " + LEAST_NUMBER + " 0)");
        checkResult(0, "(< 0 " + LEAST_NUMBER + ")");
        checkResult(1, "(let x " + LEAST_NUMBER + " (< x (- x 1)))");
        checkResult(0, "(let x " + LEAST_NUMBER + " (< (- x 1) x))");
        checkResult(0, "(let x " + LEAST_NUMBER + " (< x x))");
        checkResult(1, "(let x " + LEAST_NUMBER + " (= x x))");
        checkResult(0, "(let x " + LEAST_NUMBER + " (= x (- x 1)))");
        checkResult(0, "(= (* 256 256) 0)");
        checkResult(1, "(< 1 2)");
        checkResult(0, "(< 2 2)");
        checkResult(0, "(< 3 2)");
        checkResult(0, "(= 1 2)");
        checkResult(1, "(= 2 2)");
        checkResult(0, "(= 3 2)");
    }

    /** "8: one is taken off; if it is 0 goes to a place". */
    private static void onlyZeroGoes() {
        checkResult(6, "(if 0 5 6)");
        checkResult(6, "(if (- 1 1) 5 6)");
        for (String number : new String[] {"1", "-1", "256", "-256", "(* 256 256)",
            LEAST_NUMBER, "(- " + LEAST_NUMBER + " 1)"}) {
            checkResult(5, "(if " + number + " 5 6)");
        }
    }

    /** "a stack of 120 numbers": the 120th has room, with all 24 calls. */
    private static void stackHas120() {
        Trial trial = linked(FOUR_MORE, "(+ 1 (+ 1 (+ 1 (f 23))))");
        int most = 0;
        int mostCalls = 0;
        for (int step = 0; step < 381; step++) {
            Trial.due("step " + step, 1, trial.run(1));
            most = Math.max(most, trial.forge.about(3));
            mostCalls = Math.max(mostCalls, trial.forge.about(4));
        }
        Trial.due("the most numbers", 120, most);
        Trial.due("the most calls", 24, mostCalls);
        Trial.due("done", 2, trial.forge.about(0));
        Trial.due("steps", 381, trial.forge.about(5));
        Trial.due("the result", 96, trial.forge.top());
    }

    /** "FULL, with nothing done, for good, if there is no room on the stack": by a 0. */
    private static void stackIsFullByANumber() {
        Trial trial = linked(FOUR_MORE, "(+ 1 (+ 1 (+ 1 (+ 1 (f 23)))))");
        Trial.due("up to it", 233, trial.run(233));
        Trial.due("not yet full", "1 43 114 120 23 233", trial.about());
        Trial.due("the full step", 1, trial.run(500));
        Trial.due("full", "3 43 114 120 23 233", trial.about());
        Trial.due("the uppermost", 1, trial.forge.top());
        Trial.due("the parameter", 1, trial.forge.stack(114));
        Trial.due("the lowest of main", 1, trial.forge.stack(0));
        Trial.due("the first parameter", 23, trial.forge.stack(4));
        trial.forge.restart();
        Trial.due("all at once", 234, trial.run(500));
    }

    /** The same by a 1. */
    private static void stackIsFullByASlot() {
        Trial trial = linked(FOUR_MORE, "(+ 1 (+ 1 (+ 1 (+ 1 (+ 1 (f 23))))))");
        Trial.due("up to it", 233, trial.run(233));
        Trial.due("not yet full", "1 45 115 120 23 233", trial.about());
        Trial.due("the full step", 1, trial.run(1));
        Trial.due("full", "3 45 115 120 23 233", trial.about());
        trial.forge.restart();
        Trial.due("all at once", 234, trial.run(234));
        Trial.due("full again", "3 45 115 120 23 233", trial.about());
    }

    /** "a call stack of 24": the 24th has room. */
    private static void callStackHas24() {
        String function = "(def f (n) (if n (f (- n 1)) 7))";
        Trial trial = linked(function, "(f 23)");
        // Main's two, 23 times six and three down, twice and once up, and the end.
        Trial.due("down", 2 + 23 * 6 + 3, trial.run(2 + 23 * 6 + 3));
        Trial.due("24 calls", 24, trial.forge.about(4));
        Trial.due("running", 1, trial.forge.about(0));
        Trial.due("up", 23 * 2 + 2, trial.run(500));
        Trial.due("done", 2, trial.forge.about(0));
        Trial.due("the result", 7, trial.forge.top());
        Trial deeper = linked(function, "(f 24)");
        Trial.due("one more", 2 + 23 * 6 + 6, deeper.run(500));
        Trial.due("is full", "3 19 23 25 24 145", deeper.about());
    }

    /** "or the call stack", without any number on the stack. */
    private static void callStackIsFull() {
        Trial trial = linked("(def f () (f))", "(f)");
        for (int calls = 1; calls <= 24; calls++) {
            Trial.due("call " + calls, 1, trial.run(1));
            Trial.due("behind call " + calls, "1 5 0 0 " + calls + " " + calls, trial.about());
        }
        Trial.due("the 25th", 1, trial.run(1));
        Trial.due("is full", "3 5 0 0 24 24", trial.about());
        Trial.due("no uppermost", 0, trial.forge.top());
    }

    /** "for good": only restart and link begin anew. */
    private static void fullIsForGood() {
        Trial trial = linked("(def f () (f))", "(f)");
        Trial.due("25 steps", 25, trial.run(500));
        for (int n : new int[] {0, 1, 500}) {
            Trial.due("no step of " + n, 0, trial.run(n));
            Trial.due("full", "3 5 0 0 24 24", trial.about());
        }
        trial.with("8");
        trial.forge.clear();
        Trial.due("full without units", "3 5 0 0 24 24", trial.about());
        Trial.due("restart", true, trial.forge.restart());
        Trial.due("running", "1 0 0 0 0 0", trial.about());
        Trial.due("25 steps again", 25, trial.run(500));
        trial.with("8").link();
        Trial.due("running by link", "1 0 0 0 0 0", trial.about());
        Trial.due("to its end", 2, trial.run(500));
    }

    /** "14: it is DONE (the place stays)". */
    private static void doneStays() {
        Trial trial = linked("(+ 1 2)");
        Trial.due("four steps", 4, trial.run(4));
        Trial.due("done", "2 7 0 1 0 4", trial.about());
        for (int n : new int[] {0, 1, 500}) {
            Trial.due("no step of " + n, 0, trial.run(n));
            Trial.due("done still", "2 7 0 1 0 4", trial.about());
        }
        Trial.due("the uppermost", 3, trial.forge.top());
    }

    /** "the frame becomes that of the n uppermost", with none. */
    private static void callsWithoutParameters() {
        Trial trial = linked("(def f () 7)", "(+ 5 (f))");
        trial.run(2);
        Trial.due("the frame is behind all", "1 9 1 1 1 2", trial.about());
        trial.run(1);
        Trial.due("one number in it", "1 12 1 2 1 3", trial.about());
        trial.run(1);
        Trial.due("back", "1 7 0 2 0 4", trial.about());
        Trial.due("the stack", "5 7", trial.stack());
        checkResult(12, "(def f () 7)", "(+ 5 (f))");
    }

    /** The same with four; "the frame's numbers too" are taken off. */
    private static void callsWithFourParameters() {
        Trial trial = linked("(def f (a b c d) (let e 9 (set c e)))", "(+ 5 (f 1 2 3 4))");
        trial.run(6);
        Trial.due("the frame", "1 21 1 5 1 6", trial.about());
        trial.run(3);
        Trial.due("the stack", "5 1 2 9 4 9 9", trial.stack());
        trial.run(2);
        Trial.due("back", "1 19 0 2 0 11", trial.about());
        Trial.due("the stack behind it", "5 9", trial.stack());
        Trial.due("nothing above it", 0, trial.forge.stack(2));
        trial.run(500);
        Trial.due("the result", 14, trial.forge.top());
    }

    /** "slot k" is counted from the frame, also in a call within a call. */
    private static void slotsAreOfTheFrame() {
        checkResult(321, "(def g (a b) (+ (* 10 b) a))", "(def f (a b) (+ (* 100 b) (g a 2)))",
                "(let x 9 (f 1 3))");
        checkResult(9, "(def g (a) (set a 5))", "(def f (a) (do (g a) a))", "(let x 8 (f 9))");
        checkResult(8, "(def f (a) (do (set a 1) a))", "(let x 8 (do (f x) x))");
    }

    /** "7: goes to a place": a run whose condition is 0 at once, and some that go round. */
    private static void loopsGoBack() {
        checkResult(0, "(run 0 1)");
        checkResult(0, "(let i 1 (run i (set i 0)))");
        checkResult(40, "(let s 0 (let i 8 (do (run i (do (set i (- i 1)) (set s (+ s 5)))) s)))");
        Trial trial = linked("(run 1 2)");
        for (int k = 0; k < 20; k++) {
            Trial.due("500 steps", 500, trial.run(500));
            Trial.due("at most one number", true, trial.forge.about(3) <= 1);
        }
        Trial.due("all steps", 10000, trial.forge.about(5));
    }

    /** "IllegalArgumentException if n is not 0 .. 500." */
    private static void runRefuses() {
        Trial idle = new Trial();
        Trial running = linked("(run 1 2)");
        Trial done = linked("1");
        done.run(500);
        Trial full = linked("(def f () (f))", "(f)");
        full.run(500);
        for (Trial trial : new Trial[] {idle, running, done, full}) {
            String before = trial.about();
            for (int n : new int[] {LEAST, -500, -2, -1, 501, 502, 1000, MOST}) {
                Trial.due("run(" + n + ") at " + before, Trial.REFUSED, trial.run(n));
                Trial.due("changes nothing", before, trial.about());
            }
            Trial.due("run(0) at " + before, 0, trial.run(0));
            Trial.due("changes nothing, too", before, trial.about());
        }
        Trial.due("1 is allowed", 1, running.run(1));
        Trial.due("499 are allowed", 499, running.run(499));
        Trial.due("500 are allowed", 500, running.run(500));
    }

    /** "how many (also the one at which it is DONE or FULL)". */
    private static void runCountsTheLastStep() {
        for (int n = 0; n <= 6; n++) {
            Trial done = linked("(+ 1 2)");
            Trial.due("up to " + n + " of 4", Math.min(n, 4), done.run(n));
            Trial.due("the state behind " + n, n < 4 ? 1 : 2, done.forge.about(0));
            Trial.due("the rest", Math.max(4 - n, 0), done.run(500));
        }
        for (int n = 22; n <= 28; n++) {
            Trial full = linked("(def f () (f))", "(f)");
            Trial.due("up to " + n + " of 25", Math.min(n, 25), full.run(n));
            Trial.due("the state behind " + n, n < 25 ? 1 : 3, full.forge.about(0));
            Trial.due("the rest", Math.max(25 - n, 0), full.run(500));
            Trial.due("only 24 were made", 24, full.forge.about(5));
        }
    }

    /** "as long as it runs". */
    private static void runMakesNoStepUnlessRunning() {
        Trial trial = new Trial();
        Trial.due("idle", 0, trial.run(500));
        trial.with("(x)").link();
        Trial.due("idle behind a link that failed", 0, trial.run(500));
        trial.with("5").link();
        Trial.due("running", 2, trial.run(500));
        trial.with("(x)").link();
        Trial.due("done behind a link that failed", 0, trial.run(500));
    }

    /** "true; false if there is none". */
    private static void restartNeedsAnImage() {
        Trial trial = new Trial();
        Trial.due("new", false, trial.forge.restart());
        trial.with("(x)");
        Trial.due("with a unit", false, trial.forge.restart());
        trial.link();
        Trial.due("behind a link that failed", false, trial.forge.restart());
        Trial.due("idle", "0 0 0 0 0 0", trial.about());
        trial.with("5").link();
        Trial.due("with an image", true, trial.forge.restart());
        trial.forge.clear();
        Trial.due("without units", true, trial.forge.restart());
        trial.link();
        Trial.due("behind another that failed", true, trial.forge.restart());
        Trial.due("the image is there", 2, trial.run(500));
    }

    /** "The machine is at the beginning of the image". */
    private static void restartInEachState() {
        Trial trial = linked("(def f (n) (+ n (f 3)))", "(f 6)");
        for (int steps : new int[] {0, 1, 2, 3, 50, 500}) {
            trial.run(steps);
            Trial.due("restart behind " + steps, true, trial.forge.restart());
            Trial.due("the beginning behind " + steps, "1 0 0 0 0 0", trial.about());
            Trial.due("no number behind " + steps, 0, trial.forge.stack(0));
            Trial.due("no uppermost behind " + steps, 0, trial.forge.top());
        }
        Trial done = linked("5");
        done.run(500);
        Trial.due("restart when done", true, done.forge.restart());
        Trial.due("twice", true, done.forge.restart());
        Trial.due("the beginning", "1 0 0 0 0 0", done.about());
        Trial.due("the same again", 2, done.run(500));
        Trial.due("the same result", 5, done.forge.top());
    }

    /** "how many steps since the beginning (FULL ones not)". */
    private static void stepsAreCounted() {
        Trial trial = linked("5");
        trial.run(1);
        Trial.due("one", 1, trial.forge.about(5));
        trial.run(1);
        Trial.due("the last one, too", 2, trial.forge.about(5));
        trial.run(500);
        Trial.due("none behind it", 2, trial.forge.about(5));
        trial.forge.restart();
        Trial.due("none since restart", 0, trial.forge.about(5));
        trial.run(2);
        trial.link();
        Trial.due("none since link", 0, trial.forge.about(5));
    }

    /** "NONE for another what." */
    private static void aboutAnswersNone() {
        Trial running = linked("(run 1 2)");
        running.run(7);
        for (Trial trial : new Trial[] {new Trial(), running}) {
            for (int what : new int[] {LEAST, -6, -2, -1, 6, 7, 100, MOST}) {
                Trial.due("about(" + what + ")", -1, trial.forge.about(what));
            }
        }
        Trial.due("about 0 .. 5", "1 6 0 0 0 7", running.about());
    }

    /** "Number k of the stack, from 0 on; 0 if there is none." */
    private static void stackAnswersZero() {
        Trial trial = linked("(+ 11 (+ 22 33))");
        for (int k : new int[] {LEAST, -1, 0, 1, 119, 120, MOST}) {
            Trial.due("empty: stack(" + k + ")", 0, trial.forge.stack(k));
        }
        trial.run(3);
        for (int k = 0; k < 3; k++) {
            Trial.due("stack(" + k + ")", 11 * (k + 1), trial.forge.stack(k));
        }
        for (int k : new int[] {LEAST, LEAST + 1, -2, -1, 3, 4, 119, 120, 121, MOST}) {
            Trial.due("outside: stack(" + k + ")", 0, trial.forge.stack(k));
        }
        trial.run(1);
        Trial.due("the second one's sum", 55, trial.forge.stack(1));
        Trial.due("what was above it", 0, trial.forge.stack(2));
        trial.run(1);
        Trial.due("the sum", 66, trial.forge.stack(0));
        Trial.due("what was above this", 0, trial.forge.stack(1));

        Trial full = linked(FOUR_MORE, "(+ 1 (+ 1 (+ 1 (+ 1 (f 23)))))");
        full.run(500);
        Trial.due("the highest of all", 1, full.forge.stack(119));
        Trial.due("one above all", 0, full.forge.stack(120));
    }

    /** "The uppermost number; 0 if there is none." */
    private static void topAnswersZero() {
        Trial.due("idle", 0, new Trial().forge.top());
        Trial trial = linked("(do 5 (+ 6 -7))");
        Trial.due("nothing put on", 0, trial.forge.top());
        int[] due = {5, 0, 6, -7, -1, -1};
        for (int number : due) {
            trial.run(1);
            Trial.due("the uppermost", number, trial.forge.top());
        }
        trial.forge.restart();
        Trial.due("nothing again", 0, trial.forge.top());
    }
}
