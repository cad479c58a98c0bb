/** The edges that the document names for macros. */
public final class MacroEdgeTest {
    public static void main(String[] args) {
        laterOnesChangeNothing();
        theLatestOfANameCounts();
        numbersOfFormsAreThoseOfParameters();
        parametersStandAnywhere();
        parametersOfTheSameNames();
        whatItStandsForIsLookedAtAnew();
        onlyListsAreReplaced();
        twelveAreReplaced();
        twelveInOneAnother();
        thirteenByOneMacroAfterAnother();
        eachUnitHasTwelve();
        listsThatAreDroppedDoNotCount();
        bodiesAreOnlyKept();
        listsMayBeMoreThanEightDeep();
        Trial.end();
    }

    private static void checkCode(Trial trial, String text, String code) {
        int unit = trial.compile(text);
        StringBuilder found = new StringBuilder();
        int length = unit < 0 ? 0 : trial.forge.object(unit, 4);
        for (int k = 0; k < length; k++) {
            found.append(k == 0 ? "" : " ").append(trial.forge.object(unit, 5 + k));
        }
        Trial.due("the code of '" + text + "'", code, found.toString());
    }

    private static void checkGood(Trial trial, String text) {
        Trial.due("'" + text + "' is a unit", true, trial.compile(text) >= 0);
    }

    private static void checkWrong(Trial trial, String text) {
        Trial.due("'" + text + "'", Trial.WRONG, trial.compile(text));
        Trial.due("'" + text + "' is a form", -1, trial.forge.position());
    }

    /** "MACROS made so far (later ones change nothing)". */
    private static void laterOnesChangeNothing() {
        Trial trial = new Trial().with("(def f (x) (+ x 1))", "(def m (x) (f x))", "(m 2)");
        String function = trial.object(1);
        String main = trial.object(2);
        trial.with("(mac f (x) (* x x))", "(mac m () 5)");
        Trial.due("the function", function, trial.object(1));
        Trial.due("the main", main, trial.object(2));
        Trial.due("the link", 8 + 8 + 8, trial.link());
        trial.run(500);
        Trial.due("the result", 3, trial.forge.top());
        // The macro's own list of m is only looked at when it is used.
        Trial user = new Trial().with("(mac u () (m))");
        checkCode(user, "(u)", "12 0 0 0 14");
        user.with("(mac m () 5)");
        checkCode(user, "(u)", "0 0 5 14");
    }

    /** "the latest one of a name". */
    private static void theLatestOfANameCounts() {
        Trial trial = new Trial();
        for (int number = 0; number < 8; number++) {
            trial.with("(mac m () " + number + ")");
            checkCode(trial, "(m)", "0 0 " + number + " 14");
        }
        trial.forge.clear();
        trial.with("(mac m (a) 1)", "(mac m (a b) 2)", "(mac mm (a) 3)", "(def m (a) 4)");
        checkWrong(trial, "(m 1)");
        checkCode(trial, "(m 1 1)", "0 0 2 14");
        checkCode(trial, "(mm 1)", "0 0 3 14");
        checkCode(trial, "(mmm 1)", "0 0 1 12 0 0 1 14");
        trial.compile("(mac m (a a) 5)");
        checkCode(trial, "(m 1 1)", "0 0 2 14");
    }

    /** "With other numbers of forms it is WRONG (also if a function has that name)." */
    private static void numbersOfFormsAreThoseOfParameters() {
        String[] parameters = {"", "a", "a b", "a b c", "a b c d"};
        for (int due = 0; due <= 4; due++) {
            Trial trial = new Trial();
            for (int count = 0; count <= 4; count++) {
                trial.with("(def m (" + parameters[count] + ") 1)");
            }
            trial.with("(mac m (" + parameters[due] + ") 7)");
            for (int count = 0; count <= 6; count++) {
                String text = "(m" + " 1".repeat(count) + ")";
                if (count == due) {
                    checkCode(trial, text, "0 0 7 14");
                } else {
                    checkWrong(trial, text);
                    checkWrong(trial, "(do 1 " + text + ")");
                    checkWrong(trial, "(def f () " + text + ")");
                }
            }
        }
    }

    /** "each parameter's symbol, wherever it stands (first in a list, too)". */
    private static void parametersStandAnywhere() {
        Trial trial = new Trial().with("(mac h (x) (x 1 2))", "(mac l (x) (let x 1 (set x x)))",
                "(mac all (x y) (do x (y x x) (y (do x) x)))", "(mac id (x) x)");
        checkCode(trial, "(h +)", "0 0 1 0 0 2 2 14");
        checkCode(trial, "(h do)", "0 0 1 10 0 0 2 14");
        checkCode(trial, "(h run)", "0 0 1 8 0 13 0 0 2 10 7 0 0 0 0 0 14");
        checkCode(trial, "(h g)", "0 0 1 0 0 2 12 0 0 2 14");
        checkWrong(trial, "(h if)");
        checkWrong(trial, "(h 1)");
        checkWrong(trial, "(h ())");
        checkWrong(trial, "(h (f))");
        checkWrong(trial, "(h id)");
        checkWrong(trial, "(h def)");
        checkWrong(trial, "(h mac)");
        checkCode(trial, "(l q)", "0 0 1 1 0 11 0 9 14");
        checkCode(trial, "(l if)", "0 0 1 1 0 11 0 9 14");
        checkWrong(trial, "(l +)");
        checkWrong(trial, "(l 1)");
        checkWrong(trial, "(l ())");
        checkCode(trial, "(all 5 -)", "0 0 5 10 0 0 5 0 0 5 3 10 0 0 5 0 0 5 3 14");
        checkWrong(trial, "(id +)");
        checkWrong(trial, "(id ())");
    }

    /** What stands for a parameter is not looked through for parameters again. */
    private static void parametersOfTheSameNames() {
        Trial trial = new Trial().with("(mac m (m) (m 1 2))", "(mac sw (a b) (- b a))",
                "(mac tw (a b) (sw b a))", "(mac in (x) (let y 1 (+ x y)))");
        checkCode(trial, "(m *)", "0 0 1 0 0 2 4 14");
        checkCode(trial, "(m sw)", "0 0 2 0 0 1 3 14");
        checkWrong(trial, "(m m)");
        checkCode(trial, "(let a 1 (let b 2 (sw b a)))", "0 0 1 0 0 2 1 0 1 1 3 9 9 14");
        checkCode(trial, "(let a 1 (let b 2 (tw a b)))", "0 0 1 0 0 2 1 0 1 1 3 9 9 14");
        // A symbol of the argument finds the let that the macro puts around it.
        checkCode(trial, "(let y 5 (in y))", "0 0 5 0 0 1 1 1 1 1 2 9 9 14");
    }

    /** "what it stands for is looked at anew". */
    private static void whatItStandsForIsLookedAtAnew() {
        Trial trial = new Trial().with("(mac a (x) (b x))", "(mac b (x) (c x))",
                "(mac c (x) (+ x 1))", "(mac use (f) (f 3))");
        checkCode(trial, "(a 2)", "0 0 2 0 0 1 2 14");
        checkCode(trial, "(use a)", "0 0 3 0 0 1 2 14");
        checkCode(trial, "(a (b (c 2)))", "0 0 2 0 0 1 2 0 0 1 2 0 0 1 2 14");
        // From the outside in: the outer list says what becomes of the inner one.
        trial.with("(mac four (x) 4)", "(mac a (x) (four x))");
        checkCode(trial, "(a (b 1 2 3))", "0 0 4 14");
    }

    /** "a list whose first form is a macro's name". */
    private static void onlyListsAreReplaced() {
        Trial trial = new Trial().with("(mac m () 1)", "(mac n (x) 2)");
        checkWrong(trial, "m");
        checkWrong(trial, "(do m)");
        checkWrong(trial, "(f m)");
        checkCode(trial, "(let m 3 m)", "0 0 3 1 0 9 14");
        checkCode(trial, "(let m 3 (m))", "0 0 3 0 0 1 9 14");
        checkCode(trial, "(let m 3 (f m))", "0 0 3 1 0 12 0 0 1 9 14");
        checkCode(trial, "(let m 3 (set m 4))", "0 0 3 0 0 4 11 0 9 14");
        checkWrong(trial, "(let m 3 (m m))");
        Trial.due("neither names nor parameters", true, trial.compile("(def m (n m) (+ n m))") > 0);
    }

    /** "In one unit at most 12 lists are replaced so; the 13th is WRONG." */
    private static void twelveAreReplaced() {
        Trial trial = new Trial().with("(mac m () 1)", "(mac i (x) x)");
        String code = "0 0 1" + " 10 0 0 1".repeat(11) + " 14";
        checkCode(trial, "(do" + "(m)".repeat(12) + ")", code);
        checkWrong(trial, "(do" + "(m)".repeat(13) + ")");
        checkCode(trial, "(do" + "(i 1)".repeat(12) + ")", code);
        checkWrong(trial, "(do" + "(i 1)".repeat(13) + ")");
        checkCode(trial, "(do" + "(i(m))".repeat(6) + ")", "0 0 1" + " 10 0 0 1".repeat(5) + " 14");
        checkWrong(trial, "(do" + "(i(m))".repeat(6) + "(m))");
        checkGood(trial, "(def f () (do" + "(m)".repeat(12) + "))");
        checkWrong(trial, "(def f () (do" + "(m)".repeat(13) + "))");
    }

    /** The same for lists that are doubled, and for lists in one another. */
    private static void twelveInOneAnother() {
        Trial trial = new Trial().with("(mac d (x) (+ x x))", "(mac q (x) (do x x x x))",
                "(mac m () 1)", "(mac i (x) x)");
        checkGood(trial, "(i(i(i(i(i(i(i(i 1))))))))");
        checkGood(trial, "(do(i(i(i(i(i(i(i 1)))))))(i(i(i(i(i 1))))))");
        checkWrong(trial, "(do(i(i(i(i(i(i(i 1)))))))(i(i(i(i(i(i 1)))))))");
        checkGood(trial, "(d (d (d (+ 1 1))))");
        checkGood(trial, "(do (d (d (d 1))) (d (d 1)) (d 1) (m))");
        checkWrong(trial, "(do (d (d (d 1))) (d (d 1)) (d 1) (m) (m))");
        checkWrong(trial, "(d (d (d (m))))");
        checkGood(trial, "(do (q (d 1)) (q (m)) (i 1) (m))");
        checkWrong(trial, "(do (q (d 1)) (q (m)) (i 1) (m) (m))");
    }

    /** A macro that stands for itself never ends, but for the 13th. */
    private static void thirteenByOneMacroAfterAnother() {
        Trial trial = new Trial().with("(mac m () (m))", "(mac g (x) (g (+ x x)))",
                "(mac h (x) (do x (h x)))");
        checkWrong(trial, "(m)");
        checkWrong(trial, "(g 1)");
        checkWrong(trial, "(h 1)");
        checkWrong(trial, "(def f () (m))");
        trial.with("(mac m () 1)");
        checkCode(trial, "(m)", "0 0 1 14");

        Trial chain = new Trial();
        for (char name = 'a'; name < 'm'; name++) {
            chain.with("(mac " + name + " (x) (" + (char) (name + 1) + " x))");
        }
        checkCode(chain, "(a 1)", "0 0 1 12 0 0 1 14");
        Trial.due("m is what is called", 'm', chain.forge.object(12, 5 + 8 + 4));
        chain.with("(mac m (x) x)");
        checkCode(chain, "(b 1)", "0 0 1 14");
        checkWrong(chain, "(a 1)");
    }

    /** "In one unit": the count begins anew with each, also behind a wrong one. */
    private static void eachUnitHasTwelve() {
        Trial trial = new Trial().with("(mac m () 1)");
        String twelve = "(do" + "(m)".repeat(12) + ")";
        for (int k = 0; k < 3; k++) {
            checkGood(trial, twelve);
            checkWrong(trial, "(do" + "(m)".repeat(13) + ")");
            checkGood(trial, "(def f () " + twelve + ")");
            checkWrong(trial, "(do" + "(m)".repeat(12) + " x)");
            checkGood(trial, "(mac n () " + twelve + ")");
            checkGood(trial, twelve);
        }
    }

    /** A list that no body keeps is never looked at. */
    private static void listsThatAreDroppedDoNotCount() {
        Trial trial = new Trial().with("(mac k (x y) y)", "(mac m () 1)");
        checkCode(trial, "(k (do" + "(m)".repeat(20) + ") 5)", "0 0 5 14");
        checkCode(trial, "(k (m 1 1) 5)", "0 0 5 14");
        checkCode(trial, "(k () 5)", "0 0 5 14");
        checkCode(trial, "(k x 5)", "0 0 5 14");
        checkWrong(trial, "(k 5 x)");
        checkWrong(trial, "(k 5 (m 1 1))");
    }

    /** "A macro's own body is only kept as it is." */
    private static void bodiesAreOnlyKept() {
        String[] bodies = {
            "()", "x", "+", "(1)", "(+ 1)", "(do)", "(let 1 2)", "(set x)", "(if)", "(run)", "(())",
            "(m 1 2 3)", "(n)", "(n 1 2)", "(do" + " 1".repeat(51) + ")",
            "(do" + "(n 1)".repeat(13) + ")",
        };
        for (String body : bodies) {
            Trial trial = new Trial().with("(mac n (x) x)");
            Trial.due("a macro of " + body, 1, trial.compile("(mac m () " + body + ")"));
            checkWrong(trial, "(m)");
            Trial.due("it has no object", -1, trial.forge.object(1, -1));
        }
    }

    /** "By this lists may be more than 8 deep." */
    private static void listsMayBeMoreThanEightDeep() {
        Trial trial = new Trial().with("(mac m (x) (do (do (do (do (do (do (do x))))))))");
        checkCode(trial, "(m 1)", "0 0 1 14");
        checkCode(trial, "(m (m 1))", "0 0 1 14");
        checkCode(trial, "(m(m(m(m(m(m(m(m 1))))))))", "0 0 1 14");
        trial.with("(mac n (x) (+ 1 (+ 1 (+ 1 (+ 1 (+ 1 (+ 1 x)))))))");
        checkCode(trial, "(n (n 2))", "0 0 1 ".repeat(12) + "0 0 2" + " 2".repeat(12) + " 14");
        trial.with("(mac l (x) (let a 1 (let b 1 (let c 1 (let d 1 (let e 1 (let f 1 x)))))))");
        checkCode(trial, "(l (l (+ a f)))",
                "0 0 1 ".repeat(12) + "1 6 1 11 2" + " 9".repeat(12) + " 14");
    }
}
