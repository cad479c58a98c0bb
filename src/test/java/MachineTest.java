/** Promises 10 to 14: restart, run, about, stack and top. */
public final class MachineTest {
    public static void main(String[] args) {
        checkResults();
        checkStepByStep();
        checkCallStepByStep();
        checkRunAnswers();
        checkRestart();
        checkFullCallStack();
        checkFullStackByNumber();
        checkFullStackBySlot();
        checkAlmostFull();
        checkAnswersOutside();
        Trial.end();
    }

    private static Trial linked(String... units) {
        Trial trial = new Trial().with(units);
        Trial.due("links", true, trial.link() > 0);
        return trial;
    }

    private static void checkResult(int due, String... units) {
        Trial trial = linked(units);
        for (int k = 0; k < 20; k++) {
            trial.run(500);
        }
        String what = units[units.length - 1];
        Trial.due("state behind " + what, 2, trial.forge.about(0));
        Trial.due("numbers behind " + what, 1, trial.forge.about(3));
        Trial.due("calls behind " + what, 0, trial.forge.about(4));
        Trial.due("frame behind " + what, 0, trial.forge.about(2));
        Trial.due("result of " + what, due, trial.forge.top());
        Trial.due("stack(0) of " + what, due, trial.forge.stack(0));
    }

    private static void checkResults() {
        checkResult(-9999, "-9999");
        checkResult(9999, "9999");
        checkResult(3, "(+ 1 2)");
        checkResult(-1, "(- 1 2)");
        checkResult(-6, "(* 2 -3)");
        checkResult(1, "(< 1 2)");
        checkResult(0, "(< 2 2)");
        checkResult(0, "(< 3 2)");
        checkResult(1, "(< -1 0)");
        checkResult(1, "(= 2 2)");
        checkResult(0, "(= 2 -2)");
        checkResult(2, "(if 1 2 3)");
        checkResult(3, "(if 0 2 3)");
        checkResult(2, "(if -1 2 3)");
        checkResult(3, "(do 1 2 3)");
        checkResult(11, "(let x 5 (+ x (let y 6 y)))");
        checkResult(30, "(let x 5 (let y 6 (* x y)))");
        checkResult(8, "(let x 5 (do (set x (+ x 3)) x))");
        checkResult(9, "(let x 5 (set x 9))");
        checkResult(0, "(run 0 1)");
        checkResult(55, "(let s 0 (let i 10 (do (run i (do (set s (+ s i)) (set i (- i 1)))) s)))");
        checkResult(7, "(def f () 7)", "(f)");
        checkResult(-3, "(def f (a b) (- a b))", "(f 1 4)");
        checkResult(1234, "(def f (a b c d) (+ (* 10 (+ (* 10 (+ (* 10 a) b)) c)) d))",
                "(f 1 2 3 4)");
        checkResult(55, "(def fib (n) (if (< n 2) n (+ (fib (- n 1)) (fib (- n 2)))))", "(fib 10)");
        checkResult(6, "(def f (a) (do (set a (+ a 1)) a))", "(let a 5 (f a))");
        checkResult(5, "(def f (a) (set a 1))", "(let a 5 (do (f a) a))");
        checkResult(99980001, "(* 9999 9999)");
        checkResult(99980001 * 99980001, "(let x (* 9999 9999) (* x x))");
        checkResult(99980001 * 99, "(* (* 9999 9999) 99)");
        int large = 99980001 * 21;
        checkResult(large + large, "(let x (* (* 9999 9999) 21) (+ x x))");
        checkResult(-large - large, "(let x (* (* 9999 9999) 21) (- (- 0 x) x))");
        // Wrapped differences would tell the wrong one of these to be less.
        checkResult(1, "(let x (* (* 9999 9999) 21) (< (- 0 x) x))");
        checkResult(0, "(let x (* (* 9999 9999) 21) (< x (- 0 x)))");
    }

    private static void checkStep(Trial trial, String about, String stack) {
        Trial.due("one step", 1, trial.run(1));
        Trial.due("about", about, trial.about());
        Trial.due("stack", stack, trial.stack());
    }

    private static void checkStepByStep() {
        Trial trial = linked("(let x 5 (if (= x 5) (do 1 (set x -2)) 3))");
        checkStep(trial, "1 3 0 1 0 1", "5");
        checkStep(trial, "1 5 0 2 0 2", "5 5");
        checkStep(trial, "1 8 0 3 0 3", "5 5 5");
        checkStep(trial, "1 9 0 2 0 4", "5 1");
        checkStep(trial, "1 12 0 1 0 5", "5");
        checkStep(trial, "1 15 0 2 0 6", "5 1");
        checkStep(trial, "1 16 0 1 0 7", "5");
        checkStep(trial, "1 19 0 2 0 8", "5 -2");
        checkStep(trial, "1 21 0 2 0 9", "-2 -2");
        checkStep(trial, "1 27 0 2 0 10", "-2 -2");
        checkStep(trial, "1 28 0 1 0 11", "-2");
        checkStep(trial, "2 28 0 1 0 12", "-2");
        Trial.due("no step behind the end", 0, trial.run(1));
        Trial.due("nothing changes", "2 28 0 1 0 12", trial.about());
    }

    private static void checkCallStepByStep() {
        Trial trial = linked("(def f (a b) (let c 9 (- a b)))", "(+ 7 (f 3 4))");
        checkStep(trial, "1 3 0 1 0 1", "7");
        checkStep(trial, "1 6 0 2 0 2", "7 3");
        checkStep(trial, "1 9 0 3 0 3", "7 3 4");
        checkStep(trial, "1 15 1 3 1 4", "7 3 4");
        checkStep(trial, "1 18 1 4 1 5", "7 3 4 9");
        checkStep(trial, "1 20 1 5 1 6", "7 3 4 9 3");
        checkStep(trial, "1 22 1 6 1 7", "7 3 4 9 3 4");
        checkStep(trial, "1 23 1 5 1 8", "7 3 4 9 -1");
        checkStep(trial, "1 24 1 4 1 9", "7 3 4 -1");
        checkStep(trial, "1 13 0 2 0 10", "7 -1");
        checkStep(trial, "1 14 0 1 0 11", "6");
        checkStep(trial, "2 14 0 1 0 12", "6");
    }

    private static void checkRunAnswers() {
        Trial trial = linked("(run 1 2)");
        for (int n : new int[] {-1, 501, Integer.MIN_VALUE, Integer.MAX_VALUE}) {
            Trial.due("run(" + n + ")", Trial.REFUSED, trial.run(n));
        }
        Trial.due("no step by these", "1 0 0 0 0 0", trial.about());
        Trial.due("run(0)", 0, trial.run(0));
        Trial.due("run(1)", 1, trial.run(1));
        Trial.due("run(500)", 500, trial.run(500));
        Trial.due("run(499)", 499, trial.run(499));
        Trial.due("steps", 1000, trial.forge.about(5));
        Trial.due("runs on", 1, trial.forge.about(0));
        Trial.due("refused when idle, too", Trial.REFUSED, new Trial().run(501));
        Trial.due("and below 0", Trial.REFUSED, new Trial().run(-1));
        Trial.due("idle", 0, new Trial().run(500));
        Trial done = linked("1");
        Trial.due("the last step counts", 2, done.run(2));
        Trial.due("done", "2 3 0 1 0 2", done.about());
        Trial.due("refused when done, too", Trial.REFUSED, done.run(501));
        Trial.due("done makes no step", 0, done.run(500));
        Trial again = linked("1");
        Trial.due("up to the end", 2, again.run(500));
    }

    private static void checkRestart() {
        Trial trial = new Trial().with("(def f (a) (+ a 1))", "(let x 2 (* x (f 4)))");
        Trial.due("no image", false, trial.forge.restart());
        Trial.due("idle", 0, trial.forge.about(0));
        trial.link();
        for (int steps : new int[] {0, 1, 2, 5, 500}) {
            trial.run(steps);
            Trial.due("restart", true, trial.forge.restart());
            Trial.due("the beginning", "1 0 0 0 0 0", trial.about());
            Trial.due("no top", 0, trial.forge.top());
            Trial.due("no number", 0, trial.forge.stack(0));
        }
        Trial.due("runs again", 11, trial.run(500));
        Trial.due("to the same end", 10, trial.forge.top());
        trial.with("(g)");
        trial.link();
        Trial.due("restart behind a failed link", true, trial.forge.restart());
        Trial.due("the old image", 11, trial.run(500));
    }

    private static void checkFullCallStack() {
        Trial trial = linked("(def f (n) (+ 1 (f n)))", "(f 6)");
        Trial.due("steps", 74, trial.run(500));
        Trial.due("full", "3 13 46 49 24 73", trial.about());
        Trial.due("top", 6, trial.forge.top());
        Trial.due("for good", 0, trial.run(500));
        Trial.due("nothing changes", "3 13 46 49 24 73", trial.about());
        Trial.due("refused when full, too", Trial.REFUSED, trial.run(501));
        Trial.due("restart", true, trial.forge.restart());
        Trial.due("up to just before", 73, trial.run(73));
        Trial.due("still running", "1 13 46 49 24 73", trial.about());
        Trial.due("the full step counts in run", 1, trial.run(500));
        Trial.due("not in about", 73, trial.forge.about(5));
        Trial.due("link again", 8 + 12, trial.link());
        Trial.due("runs", 1, trial.forge.about(0));
    }

    private static void checkFullStackByNumber() {
        Trial trial = linked("(def f () (+ 1 (+ 2 (+ 3 (+ 4 (+ 5 (+ 6 (f))))))))", "(f)");
        Trial.due("steps", 142, trial.run(500));
        Trial.due("full", "3 5 120 120 21 141", trial.about());
        Trial.due("top", 6, trial.forge.top());
        Trial.due("stack(119)", 6, trial.forge.stack(119));
        Trial.due("stack(114)", 1, trial.forge.stack(114));
        Trial.due("stack(120)", 0, trial.forge.stack(120));
        Trial.due("for good", 0, trial.run(1));
    }

    private static void checkFullStackBySlot() {
        Trial trial = linked("(def f (a b c d) (+ 1 (+ 1 (+ 1 (f a b c d)))))", "(f 5 6 7 8)");
        Trial.due("steps", 138, trial.run(500));
        Trial.due("full", "3 28 112 120 17 137", trial.about());
        Trial.due("top", 5, trial.forge.top());
    }

    private static void checkAlmostFull() {
        // 24 calls and 120 numbers are just in reach.
        Trial trial = linked("(def f (n) (if n (+ 1 (+ 1 (+ 1 (f (- n 1))))) 0))", "(f 23)");
        int steps = trial.run(500);
        Trial.due("done", 2, trial.forge.about(0));
        Trial.due("steps", steps, trial.forge.about(5));
        Trial.due("result", 69, trial.forge.top());
        Trial deeper = linked("(def f (n) (if n (+ 1 (+ 1 (+ 1 (f (- n 1))))) 0))", "(f 24)");
        deeper.run(500);
        Trial.due("one call more", 3, deeper.forge.about(0));
        Trial.due("calls", 24, deeper.forge.about(4));
        Trial wide = linked("(def f (n) (if n (+ 1 (+ 1 (+ 1 (+ 1 (f (- n 1)))))) 1))", "(f 23)");
        wide.run(500);
        Trial.due("117 numbers", 2, wide.forge.about(0));
        Trial.due("their sum", 93, wide.forge.top());
    }

    private static void checkAnswersOutside() {
        Trial trial = linked("(+ 11 22)");
        trial.run(2);
        Trial.due("stack(0)", 11, trial.forge.stack(0));
        Trial.due("stack(1)", 22, trial.forge.stack(1));
        Trial.due("top", 22, trial.forge.top());
        trial.run(1);
        Trial.due("top of the sum", 33, trial.forge.top());
        for (int k : new int[] {1, -1, 119, 120, 121, Integer.MIN_VALUE, Integer.MAX_VALUE}) {
            Trial.due("stack(" + k + ")", 0, trial.forge.stack(k));
        }
        for (int what : new int[] {-1, 6, 7, Integer.MIN_VALUE, Integer.MAX_VALUE}) {
            Trial.due("about(" + what + ")", -1, trial.forge.about(what));
        }
    }
}
