/** Promise 3: macros and their replacing. */
public final class MacroTest {
    public static void main(String[] args) {
        checkReplacing();
        checkArgumentsOfLists();
        checkWrongNumbers();
        checkLatest();
        checkTwelve();
        checkDepth();
        checkGrowth();
        checkDefinitionsInside();
        checkSymbolsByMacros();
        Trial.end();
    }

    private static void checkCode(Trial trial, String text, String code) {
        int unit = trial.compile(text);
        StringBuilder found = new StringBuilder();
        int length = unit < 0 ? 0 : trial.forge.object(unit, 4);
        for (int k = 0; k < length; k++) {
            found.append(k == 0 ? "" : " ").append(trial.forge.object(unit, 5 + k));
        }
        Trial.due("the code of '" + text + "'", code, found.toString());
    }

    private static void checkWrong(Trial trial, String text) {
        Trial.due("'" + text + "'", Trial.WRONG, trial.compile(text));
    }

    private static void checkReplacing() {
        Trial trial = new Trial().with("(mac one () 1)", "(mac sub (a b) (- b a))",
                "(mac ap (f x) (f x x))", "(mac my (v e b) (let v e b))", "(mac id (x) x)");
        checkCode(trial, "(one)", "0 0 1 14");
        checkCode(trial, "(sub 1 2)", "0 0 2 0 0 1 3 14");
        checkCode(trial, "(sub (sub 1 2) 3)", "0 0 3 0 0 2 0 0 1 3 3 14");
        checkCode(trial, "(ap * 3)", "0 0 3 0 0 3 4 14");
        checkCode(trial, "(ap sub (one))", "0 0 1 0 0 1 3 14");
        checkCode(trial, "(my q 5 (+ q 1))", "0 0 5 1 0 0 0 1 2 9 14");
        checkCode(trial, "(id (id (one)))", "0 0 1 14");
        checkCode(trial, "(let x 1 (let a 2 (sub x a)))", "0 0 1 0 0 2 1 1 1 0 3 9 9 14");
        checkCode(trial, "(let one 3 one)", "0 0 3 1 0 9 14");
        checkWrong(trial, "one");
        checkWrong(trial, "(my 5 5 5)");
        checkWrong(trial, "(my + 5 5)");
        checkWrong(trial, "(ap 1 2)");
        checkWrong(trial, "(id x)");
        checkWrong(trial, "(id ())");
    }

    private static void checkArgumentsOfLists() {
        Trial trial = new Trial().with("(mac sw (a b) (pr b a))", "(mac pr (a b) (- a b))",
                "(mac iff (c) (if c c c))", "(mac w (do if) (if do do))",
                "(mac stt (v) (set v 3))",
                "(mac lp (c b) (run c b))", "(mac deep (x) (do (do (do (+ x (do x))))))");
        checkCode(trial, "(let a 1 (let b 2 (sw a b)))", "0 0 1 0 0 2 1 1 1 0 3 9 9 14");
        checkCode(trial, "(iff 1)", "0 0 1 8 0 12 0 0 1 7 0 15 0 0 1 14");
        checkCode(trial, "(w 4 -)", "0 0 4 0 0 4 3 14");
        checkCode(trial, "(let x 1 (stt x))", "0 0 1 0 0 3 11 0 9 14");
        checkCode(trial, "(lp 0 1)", "0 0 0 8 0 13 0 0 1 10 7 0 0 0 0 0 14");
        checkCode(trial, "(deep 6)", "0 0 6 0 0 6 2 14");
        checkCode(trial, "(+ (deep 6) (pr 1 2))", "0 0 6 0 0 6 2 0 0 1 0 0 2 3 2 14");
    }

    private static void checkWrongNumbers() {
        Trial trial = new Trial().with("(mac m (x) x)", "(mac n () 1)", "(mac o (a b c d) d)",
                "(def m (a b) a)", "(def n (a) a)");
        checkWrong(trial, "(m)");
        checkWrong(trial, "(m 1 2)");
        checkWrong(trial, "(n 1)");
        checkWrong(trial, "(o 1 2 3)");
        checkWrong(trial, "(o 1 2 3 4 5)");
        checkWrong(trial, "(def f () (m 1 2))");
        checkCode(trial, "(o 1 2 3 4)", "0 0 4 14");
        checkCode(trial, "(m 5)", "0 0 5 14");
    }

    private static void checkLatest() {
        Trial trial = new Trial();
        int before = trial.compile("(m 1)");
        String object = trial.object(before);
        trial.with("(mac m (x) (+ x 1))", "(mac u (x) (m x))");
        Trial.due("a later macro changes nothing", object, trial.object(before));
        checkCode(trial, "(u 3)", "0 0 3 0 0 1 2 14");
        trial.with("(mac m (x) (* x 2))");
        checkCode(trial, "(m 3)", "0 0 3 0 0 2 4 14");
        checkCode(trial, "(u 3)", "0 0 3 0 0 2 4 14");
        trial.with("(mac m (x y) y)");
        checkWrong(trial, "(m 3)");
        checkCode(trial, "(m 3 4)", "0 0 4 14");
        trial.with("(def m (x) x)");
        checkCode(trial, "(m 3 4)", "0 0 4 14");
        trial.forge.clear();
        checkCode(trial, "(m 3)", "0 0 3 12 0 0 1 14");
    }

    private static void checkTwelve() {
        Trial trial = new Trial().with("(mac m (x) (m x))", "(mac d (x) (+ x x))", "(mac i (x) x)",
                "(mac k (x) 1)");
        checkWrong(trial, "(m 1)");
        String pair = " 0 0 1 0 0 1 2 10";
        checkCode(trial, "(do" + Trial.repeat("(d 1)", 12) + ")",
                Trial.repeat(pair, 12).substring(1, 12 * pair.length() - 3) + " 14");
        checkWrong(trial, "(do" + Trial.repeat("(d 1)", 13) + ")");
        Trial.due("the count begins anew", 5, trial.compile("(do" + Trial.repeat("(d 1)", 12) + ")"));
        // A list that is doubled before it is looked at is two lists.
        Trial.due("7 replaced", 6, trial.compile("(d (d (d 1)))"));
        checkWrong(trial, "(d (d (d (d 1))))");
        Trial.due("12 replaced", 7, trial.compile("(do (d (d (d 1))) (i 1) (i 2) (i 3) (i 4) (i 5))"));
        checkWrong(trial, "(do (d (d (d (i 1)))))");
        checkCode(trial, "(k (d (d (d (d (d 1))))))", "0 0 1 14");
        checkCode(trial, "(k (k))", "0 0 1 14");
        checkCode(trial, "(k (x ()))", "0 0 1 14");
        checkWrong(trial, "(def f () (m 1))");
    }

    private static void checkDepth() {
        Trial trial = new Trial();
        for (char name = 'a'; name < 'l'; name++) {
            trial.with("(mac " + name + " (x) (do (do (do (do (do (do (" + (char) (name + 1)
                    + " x))))))))");
        }
        trial.with("(mac l (x) (do (do (do (do (do (do (do x))))))))");
        checkCode(trial, "(do (do (do (do (do (do (do (a 5))))))))", "0 0 5 14");

        Trial wrapping = new Trial();
        for (char name = 'a'; name < 'l'; name++) {
            wrapping.with("(mac " + name + " (x) (" + (char) (name + 1)
                    + " (do (do (do (do (do (do x))))))))");
        }
        wrapping.with("(mac l (x) (+ (do (do (do (do (do (do x)))))) x))");
        checkCode(wrapping, "(a (do (do (do (do (do (do (do 5))))))))", "0 0 5 0 0 5 2 14");
    }

    private static void checkGrowth() {
        Trial trial = new Trial();
        for (char name = 'a'; name < 'l'; name++) {
            trial.with("(mac " + name + " (x) (" + (char) (name + 1) + " (f"
                    + Trial.repeat(" x", 45) + ")))");
        }
        trial.with("(mac l (x) 1)");
        checkCode(trial, "(a 2)", "0 0 1 14");
        trial.with("(mac l (x) x)");
        checkWrong(trial, "(a 2)");
    }

    private static void checkDefinitionsInside() {
        Trial trial = new Trial().with("(mac m () (def f () 1))", "(mac n (x) (x f () 1))",
                "(mac k (x) 1)");
        checkWrong(trial, "(m)");
        checkWrong(trial, "(n def)");
        checkWrong(trial, "(n mac)");
        checkCode(trial, "(k (def f () 1))", "0 0 1 14");
        Trial.due("a parameter list is no use of a macro", 4, trial.compile("(def f (m k) (k m))"));
    }

    /** Lists in the place of a symbol stand for what their macro says, too. */
    private static void checkSymbolsByMacros() {
        Trial trial = new Trial().with("(mac plus () +)", "(mac nam () y)", "(mac m (x) (* x x))",
                "(mac call () m)", "(mac num () 1)");
        checkCode(trial, "((plus) 1 2)", "0 0 1 0 0 2 2 14");
        checkCode(trial, "(let (nam) 1 (set (nam) y))", "0 0 1 1 0 11 0 9 14");
        checkCode(trial, "((nam) 1)", "0 0 1 12 0 0 1 14");
        // The outer list was looked at first, when its first form was none of a macro's names.
        checkCode(trial, "((call) 3 4)", "0 0 3 0 0 4 12 0 0 2 14");
        checkWrong(trial, "((num) 1)");
        checkWrong(trial, "(let (num) 1 2)");
        checkWrong(trial, "(let (plus) 1 2)");
        checkWrong(trial, "(let (nam 1) 1 2)");
    }
}
