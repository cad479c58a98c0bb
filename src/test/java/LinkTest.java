/** Promises 7, 8 and 9: link, failure and image. */
public final class LinkTest {
    public static void main(String[] args) {
        checkMainAlone();
        checkOrder();
        checkPlaces();
        checkPlacesBehindEachStep();
        checkHighPlaces();
        checkLatest();
        checkFailures();
        checkFirstFailureMet();
        checkLength();
        checkFailedLinkChangesNothing();
        checkImageAnswers();
        Trial.end();
    }

    private static void checkMainAlone() {
        Trial trial = new Trial().with("(+ 1 2)", "(def f () 1)", "(mac m () 1)");
        Trial.due("link", 8, trial.link());
        Trial.due("image", "0 0 1 0 0 2 2 14", trial.image());
        Trial.due("the machine begins", "1 0 0 0 0 0", trial.about());
        Trial.due("failure", 0, trial.forge.failure());
    }

    private static void checkOrder() {
        // Each function ends with its own number, so that its place can be seen.
        Trial trial = new Trial().with("(def d () 4)", "(def c () (do (a) 3))",
                "(def b () (do (d) (c) 2))", "(def a () (do (b) (d) 1))", "(def z () 9)",
                "(do (b) (a) (b))");
        Trial.due("link", 15 + 15 + 15 + 5 + 10, trial.link());
        Trial.due("image", "12 0 15 0 10 12 0 30 0 10 12 0 15 0 14"
                + " 12 0 45 0 10 12 0 50 0 10 0 0 2 13 0"
                + " 12 0 15 0 10 12 0 45 0 10 0 0 1 13 0"
                + " 0 0 4 13 0"
                + " 12 0 30 0 10 0 0 3 13 0", trial.image());
    }

    private static void checkPlaces() {
        Trial trial = new Trial().with("(def f (n) (if n (run n (set n (- n 1))) 7))", "(f 8)");
        Trial.due("link", 8 + 33, trial.link());
        Trial.due("image", "0 0 8 12 0 8 1 14"
                + " 1 0 8 0 36 1 0 8 0 30 1 0 0 0 1 3 11 0 10 7 0 13 0 0 0 7 0 39 0 0 7 13 1",
                trial.image());
        // 7 and 8 as numbers or slots are no places, nor is 12 one of a name.
        Trial other = new Trial().with("(def f (a) (+ 7 (+ 8 12)))",
                "(if (f 1) (+ 7 8) 12)");
        Trial.due("link of numbers", 24 + 13, other.link());
        Trial.due("image of numbers", "0 0 1 12 0 24 1 8 0 20 0 0 7 0 0 8 2 7 0 23 0 0 12 14"
                + " 0 0 7 0 0 8 0 0 12 2 2 13 1", other.image());
    }

    /** A step that is taken for a longer one would hide the 8 that comes next. */
    private static void checkPlacesBehind(String condition, String code) {
        Trial trial = new Trial().with("(def g (a) (if " + condition + " 5 6))", "(g 1)");
        trial.link();
        int other = 8 + code.split(" ").length + 9;
        Trial.due("image of " + condition, "0 0 1 12 0 8 1 14 " + code + " 8 0 " + other
                + " 0 0 5 7 0 " + (other + 3) + " 0 0 6 13 1", trial.image());
    }

    private static void checkPlacesBehindEachStep() {
        checkPlacesBehind("7", "0 0 7");
        checkPlacesBehind("a", "1 0");
        checkPlacesBehind("(+ a a)", "1 0 1 0 2");
        checkPlacesBehind("(- a a)", "1 0 1 0 3");
        checkPlacesBehind("(* a a)", "1 0 1 0 4");
        checkPlacesBehind("(< a a)", "1 0 1 0 5");
        checkPlacesBehind("(= a a)", "1 0 1 0 6");
        checkPlacesBehind("(let x 1 x)", "0 0 1 1 1 9");
        checkPlacesBehind("(set a 3)", "0 0 3 11 0");
        checkPlacesBehind("(g 4)", "0 0 4 12 0 8 1");
        checkPlacesBehind("(do 7 8)", "0 0 7 10 0 0 8");
        checkPlacesBehind("(if a a a)", "1 0 8 0 18 1 0 7 0 20 1 0");
        checkPlacesBehind("(run a a)", "1 0 8 0 19 1 0 10 7 0 8 0 0 0");
    }

    private static void checkHighPlaces() {
        Trial trial = new Trial().with("(def f () (do" + Trial.repeat(" 1", 49) + "))",
                "(def g (n) (do" + Trial.repeat(" 1", 45) + " n))",
                "(def h (n) (if n (h (- n 1)) 4))", "(do (f) (g 2) (h 3))");
        Trial.due("link", 21 + 197 + 184 + 23, trial.link());
        StringBuilder last = new StringBuilder();
        for (int k = 402; k < 425; k++) {
            last.append(k == 402 ? "" : " ").append(trial.forge.image(k));
        }
        // 402 is 1 and 146.
        Trial.due("the last function", "1 0 8 1 164 1 0 0 0 1 3 12 1 146 1 7 1 167 0 0 4 13 1",
                last.toString());
        Trial.due("main's call of it", 1, trial.forge.image(17));
        Trial.due("main's call of it, lower", 146, trial.forge.image(18));
        trial.run(500);
        Trial.due("done", 2, trial.forge.about(0));
        Trial.due("result", 4, trial.forge.top());
    }

    private static void checkLatest() {
        Trial trial = new Trial().with("(def f () 1)", "(def g () (f))", "(do (f) (g))", "5",
                "(def f () 2)", "(do (g) (f))", "(def f () 3)");
        Trial.due("link", 10 + 6 + 5, trial.link());
        Trial.due("image", "12 0 10 0 10 12 0 16 0 14 12 0 16 0 13 0 0 0 3 13 0", trial.image());
        trial.with("(def f (x) x)");
        Trial.due("another number of parameters", Trial.REFUSED, trial.link());
        Trial.due("it is the latest that counts", 3, trial.forge.failure());
        trial.with("6");
        Trial.due("a newer main", 4, trial.link());
        Trial.due("its image", "0 0 6 14", trial.image());
        trial.with("(mac f () 1)", "(do (f) (f))");
        Trial.due("a macro is no function", 8, trial.link());
    }

    private static void checkFailure(int due, String... units) {
        Trial trial = new Trial().with(units);
        String what = String.join(" ", units);
        int answer = trial.link();
        Trial.due("link of " + what, due != 0, answer == Trial.REFUSED);
        Trial.due("failure of " + what, due, trial.forge.failure());
    }

    private static void checkFailures() {
        checkFailure(1);
        checkFailure(1, "(def f () 1)");
        checkFailure(1, "(mac m () 1)");
        checkFailure(1, "(def f () (g))");
        checkFailure(2, "(f)");
        checkFailure(2, "(f)", "(def g () 1)");
        checkFailure(2, "(f)", "(mac f () 1)");
        checkFailure(2, "(def f () (g))", "(f)");
        checkFailure(3, "(def f () 1)", "(f 1)");
        checkFailure(3, "(def f (a) 1)", "(f)");
        checkFailure(3, "(def f (a b c d) 1)", "(f 1 2 3 4 5)");
        checkFailure(3, "(def f (a) (f a a))", "(f 1)");
        checkFailure(3, "(def f (a) a)", "(do (f 1) (f 1) (f 1 2))");
        checkFailure(0, "(def f (a) (f a))", "(f 1)");
        checkFailure(0, "(def f () (g))", "1");
        checkFailure(0, "(def f () (f 1))", "1");
    }

    private static void checkFirstFailureMet() {
        checkFailure(2, "(def f () 1)", "(do (g) (f 1))");
        checkFailure(3, "(def f () 1)", "(do (f 1) (g))");
        checkFailure(3, "(def f () (x))", "(def g () 1)", "(do (f) (g 1))");
        checkFailure(2, "(def f () (x))", "(def g () (f 1))", "(do (f) (g))");
        checkFailure(3, "(def f () (x))", "(def g () (f 1))", "(do (g) (f))");
        checkFailure(3, "(def f () (h))", "(def h () (x))", "(def g () (g 1))", "(do (f) (g))");
    }

    private static void checkLength() {
        String[] units = {
            "(def f () (do" + Trial.repeat(" 1", 49) + "))",
            "(def g () (do" + Trial.repeat(" 1", 49) + "))",
            "(def h (a) (do" + Trial.repeat(" 1", 46) + " a))",
            "(do (f) (g) (h 1))",
        };
        Trial trial = new Trial().with(units);
        Trial.due("600 bytes", 600, trial.link());
        Trial.due("byte 599", 1, trial.forge.image(599));
        Trial.due("byte 598", 13, trial.forge.image(598));
        Trial.due("byte 600", -1, trial.forge.image(600));
        Trial.due("the length", 600, trial.forge.image(-1));
        trial.with("(def h (a) (do" + Trial.repeat(" 1", 47) + "))");
        Trial.due("601 bytes", Trial.REFUSED, trial.link());
        Trial.due("are too many", 4, trial.forge.failure());
        trial.with("(do (f) (g) (h 1) (x))");
        Trial.due("a missing function", Trial.REFUSED, trial.link());
        Trial.due("comes first", 2, trial.forge.failure());
        trial.with("(do (f) (g) (h 1) (f 1))");
        Trial.due("another number of parameters", Trial.REFUSED, trial.link());
        Trial.due("comes first, too", 3, trial.forge.failure());
        trial.with("(do (f) (f) (f) (f) (g))");
        Trial.due("once is enough", 5 * 5 + 2 * 197, trial.link());
        Trial.due("failure is gone", 0, trial.forge.failure());
    }

    private static void checkFailedLinkChangesNothing() {
        Trial trial = new Trial().with("(def f (a) (+ a 1))", "(f 4)");
        trial.link();
        trial.run(4);
        String image = trial.image();
        String machine = trial.about();
        String stack = trial.stack();
        for (String main : new String[] {"(g)", "(f)", "(do (f 1) (g))"}) {
            trial.with(main);
            Trial.due("link of " + main, Trial.REFUSED, trial.link());
            Trial.due("the image stays", image, trial.image());
            Trial.due("the machine stays", machine, trial.about());
            Trial.due("its stack stays", stack, trial.stack());
        }
        Trial.due("and goes on", 3, trial.run(500));
        Trial.due("to its end", 5, trial.forge.top());
        trial.with("(f 7)");
        Trial.due("a good link", 8 + 8, trial.link());
        Trial.due("begins anew", "1 0 0 0 0 0", trial.about());
        Trial.due("with no numbers", 0, trial.forge.stack(0));
    }

    private static void checkImageAnswers() {
        Trial trial = new Trial().with("-1");
        Trial.due("no length before link", 0, trial.forge.image(-1));
        trial.link();
        Trial.due("length", 4, trial.forge.image(-1));
        Trial.due("byte 1", 255, trial.forge.image(1));
        Trial.due("byte 3", 14, trial.forge.image(3));
        for (int k : new int[] {4, 599, 600, -2, Integer.MIN_VALUE, Integer.MAX_VALUE}) {
            Trial.due("byte " + k, -1, trial.forge.image(k));
        }
        trial.with("(+ 1 (+ 2 3))");
        trial.link();
        Trial.due("a longer image", 12, trial.forge.image(-1));
        trial.with("1");
        trial.link();
        Trial.due("a shorter image", 4, trial.forge.image(-1));
        Trial.due("nothing is left of the longer", -1, trial.forge.image(4));
    }
}
