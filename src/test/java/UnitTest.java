/** Promises 3 and 6: units and their numbers, what is wrong, and clear. */
public final class UnitTest {
    private static final String[] GOOD = {
        "(def f () 1)", "(def f (a) a)", "(def abcd (a b c d) (+ a d))", "(mac m () 1)",
        "(mac m (a b c d) x)", "(def f (if) if)", "(def f (def mac let run) (+ def mac))",
        "(mac m (do set) (do set))", "(def f (f) f)", "(mac m () ())", "(mac m (x) (x y 1))",
        "(mac m () (mac 1))", "(mac m () (def f () 1))", "(mac m () (let 1))", "(def f () (f))",
        "(let def 1 def)", "(let if 1 (if if if if))", "(let run 0 (set run 1))",
    };

    private static final String[] WRONG = {
        "(def)", "(mac)", "(def f)", "(def f ())", "(mac m ())", "(def f () 1 2)",
        "(mac m () 1 2)", "(def 1 () 1)", "(def + () 1)", "(def (f) () 1)", "(mac - () 1)",
        "(def f a 1)", "(def f 1 1)", "(def f (1) 1)", "(def f (+) 1)", "(def f ((a)) 1)",
        "(def f (a a) 1)", "(def f (a b a) 1)", "(def f (a b c b) 1)", "(mac m (x x) 1)",
        "(def f (a b c d e) 1)", "(mac m (a b c d e) 1)", "(mac m (1) 1)", "(mac m x 1)",
        "(def def () 1)", "(def mac () 1)", "(def if () 1)", "(def let () 1)", "(def do () 1)",
        "(def set () 1)", "(def run () 1)", "(mac def () 1)", "(mac mac () 1)", "(mac if () 1)",
        "(mac let () 1)", "(mac do () 1)", "(mac set () 1)", "(mac run () 1)",
        "(do (def f () 1))", "(do (mac m () 1))", "(def f () (def g () 1))",
        "(def f () (mac g () 1))", "(+ 1 (def f () 1))", "(do (def))", "(f (mac))",
        "x", "+", "(+ 1 x)", "(def f (a) b)", "(do (let x 1 x) x)", "(let x x 1)",
        "(+)", "(+ 1)", "(+ 1 2 3)", "(- 1)", "(* 1)", "(< 1)", "(= 1 2 3)", "(- 1 2 3)",
        "(* 1 2 3)", "(< 1 2 3)", "(= 1)", "(if)", "(if 1 2)", "(if 1 2 3 4)", "(let x 1)",
        "(let x 1 2 3)", "(let 1 2 3)", "(let + 2 3)", "(let (x) 2 3)", "(let () 2 3)", "(do)",
        "(set x 1)", "(set 1 2)", "(set + 1)", "(let x 1 (set x))", "(let x 1 (set x 1 2))",
        "(let x 1 (set (x) 2))", "(run)", "(run 1)", "(run 1 2 3)", "()", "(1 2)", "((f) 1)",
        "(f ())", "(f +)", "(let x 1 (set y 1))",
    };

    public static void main(String[] args) {
        for (String text : GOOD) {
            Trial.due("'" + text + "'", 0, new Trial().compile(text));
        }
        for (String text : WRONG) {
            checkWrong(text);
        }
        checkNumbers();
        checkSixteenUnits();
        checkCodeLength();
        checkNothingBoundBefore();
        checkClear();
        Trial.end();
    }

    private static void checkWrong(String text) {
        Trial trial = new Trial();
        Trial.due("'" + text + "'", Trial.WRONG, trial.compile(text));
        Trial.due("no unit of '" + text + "'", -1, trial.forge.object(0, -1));
        Trial.due("the number behind '" + text + "'", 0, trial.compile("1"));
    }

    private static void checkNumbers() {
        Trial trial = new Trial();
        Trial.due("a main", 0, trial.compile("1"));
        Trial.due("a macro", 1, trial.compile("(mac m () 1)"));
        Trial.due("a function", 2, trial.compile("(def f () 1)"));
        Trial.due("no form", Trial.NO_FORM, trial.compile("("));
        Trial.due("a wrong one", Trial.WRONG, trial.compile("(m 1)"));
        Trial.due("the same again", 3, trial.compile("(def f () 1)"));
    }

    private static void checkSixteenUnits() {
        Trial trial = new Trial();
        for (int k = 0; k < 16; k++) {
            Trial.due("unit " + k, k, trial.compile(k % 2 == 0 ? "(mac m () 1)" : "(def f () 1)"));
        }
        Trial.due("a 17th main", Trial.TOO_MANY, trial.compile("1"));
        Trial.due("it has no position", -1, trial.forge.position());
        Trial.due("the text was taken", Trial.NO_FORM, trial.compile());
        Trial.due("no form comes first", Trial.NO_FORM, trial.compile("(f A)"));
        Trial.due("its position", 3, trial.forge.position());
        Trial.due("a wrong one comes first", Trial.WRONG, trial.compile("(+ 1)"));
        Trial.due("a 17th macro", Trial.TOO_MANY, trial.compile("(mac m (x) 1)"));
        Trial.due("a 17th function", Trial.TOO_MANY, trial.compile("(def f (x) 1)"));
        Trial.due("which changed no macro", Trial.TOO_MANY, trial.compile("(m)"));
        Trial.due("unit 15 is there", 1, trial.forge.object(15, 0));
        Trial.due("unit 16 is not", -1, trial.forge.object(16, -1));
        trial.forge.clear();
        Trial.due("room again", 0, trial.compile("1"));
    }

    private static void checkCodeLength() {
        Trial trial = new Trial();
        Trial.due("a main of 200", 0, trial.compile("(do" + Trial.repeat(" 1", 50) + ")"));
        Trial.due("its length", 5 + 200 + 1, trial.forge.object(0, -1));
        Trial.due("a main of 204", Trial.WRONG, trial.compile("(do" + Trial.repeat(" 1", 51) + ")"));
        Trial.due("a function of 201", Trial.WRONG,
                trial.compile("(def f (a) (do" + Trial.repeat(" 1", 50) + "))"));
        Trial.due("a function of 200", 1,
                trial.compile("(def f (a) (do" + Trial.repeat(" 1", 49) + " a))"));
        Trial.due("a main of 202", Trial.WRONG,
                trial.compile("(do" + Trial.repeat(" 1", 48) + "(let x 1(set x 1)))"));
        trial.with("(mac c () (wxyz (wxyz) (wxyz) (wxyz) (wxyz)))");
        Trial.due("49 calls", 3,
                trial.compile("(wxyz" + Trial.repeat("(c)", 9) + "(wxyz)(wxyz)(wxyz))"));
        Trial.due("their object", 5 + 197 + 1 + 49 * 7, trial.forge.object(3, -1));
        Trial.due("their number", 49, trial.forge.object(3, 5 + 197));
        Trial.due("the last letter", 'z', trial.forge.object(3, 5 + 197 + 49 * 7));
        Trial.due("50 calls", Trial.WRONG,
                trial.compile("(wxyz" + Trial.repeat("(c)", 9) + "(wxyz)(wxyz)(wxyz)(wxyz))"));
    }

    /** What one unit binds, also a wrong one, is not bound in the next. */
    private static void checkNothingBoundBefore() {
        Trial trial = new Trial();
        Trial.due("a function", 0, trial.compile("(def f (a b) (let c 1 c))"));
        for (String name : new String[] {"a", "b", "c"}) {
            Trial.due(name + " behind it", Trial.WRONG, trial.compile(name));
        }
        Trial.due("a wrong let", Trial.WRONG, trial.compile("(let d 1 (let e 2 q))"));
        for (String name : new String[] {"d", "e"}) {
            Trial.due(name + " behind it", Trial.WRONG, trial.compile(name));
        }
    }

    private static void checkClear() {
        Trial trial = new Trial().with("(mac m (x) 1)", "(def f () 1)", "(do (f) (m 2))");
        trial.link();
        trial.run(2);
        String image = trial.image();
        String machine = trial.about();
        trial.compile("(f B)");
        trial.type("(m");
        trial.forge.clear();
        for (int unit = 0; unit < 3; unit++) {
            Trial.due("object " + unit, -1, trial.forge.object(unit, -1));
            Trial.due("a byte of object " + unit, -1, trial.forge.object(unit, 0));
        }
        Trial.due("the position stays", 3, trial.forge.position());
        Trial.due("the image stays", image, trial.image());
        Trial.due("the machine stays", machine, trial.about());
        Trial.due("the failure stays", 0, trial.forge.failure());
        trial.type(" 2)");
        Trial.due("the text stays, numbers begin anew", 0, trial.compile());
        Trial.due("the macro is gone", "0 0 0 0 8 0 0 2 12 0 0 1 14 1 0 4 1 109", trial.object(0));
        Trial.due("links", Trial.REFUSED, trial.link());
        Trial.due("no function of that name", 2, trial.forge.failure());
        trial.forge.clear();
        Trial.due("a failure stays", 2, trial.forge.failure());
        Trial.due("links without a main", Trial.REFUSED, trial.link());
        Trial.due("no main", 1, trial.forge.failure());
        Trial.due("the image still stays", image, trial.image());
        Trial.due("the machine goes on", 1, trial.forge.about(0));
        Trial.due("restart without units", true, trial.forge.restart());
    }
}
