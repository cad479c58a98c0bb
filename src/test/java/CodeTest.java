/** Promise 5: the objects, and with them the code that a body becomes. */
public final class CodeTest {
    public static void main(String[] args) {
        checkAtoms();
        checkOperations();
        checkJumps();
        checkSlots();
        checkCalls();
        checkFunctions();
        checkObjectAnswers();
        Trial.end();
    }

    private static void checkObject(String text, String due) {
        Trial trial = new Trial();
        trial.compile(text);
        Trial.due("the object of '" + text + "'", due, trial.object(0));
    }

    /** For a main without calls. */
    private static void checkCode(String text, String code) {
        int length = code.split(" ").length;
        checkObject(text, "0 0 0 0 " + length + " " + code + " 0");
    }

    private static void checkAtoms() {
        checkCode("0", "0 0 0 14");
        checkCode("-0", "0 0 0 14");
        checkCode("7", "0 0 7 14");
        checkCode("007", "0 0 7 14");
        checkCode("255", "0 0 255 14");
        checkCode("256", "0 1 0 14");
        checkCode("1234", "0 4 210 14");
        checkCode("9999", "0 39 15 14");
        checkCode("-1", "0 255 255 14");
        checkCode("-256", "0 255 0 14");
        checkCode("-9999", "0 216 241 14");
        checkCode("-1234", "0 251 46 14");
    }

    private static void checkOperations() {
        checkCode("(+ 1 2)", "0 0 1 0 0 2 2 14");
        checkCode("(- 1 2)", "0 0 1 0 0 2 3 14");
        checkCode("(* 1 2)", "0 0 1 0 0 2 4 14");
        checkCode("(< 1 2)", "0 0 1 0 0 2 5 14");
        checkCode("(= 1 2)", "0 0 1 0 0 2 6 14");
        checkCode("(+ -1 23)", "0 255 255 0 0 23 2 14");
        checkCode("(- -12 -34)", "0 255 244 0 255 222 3 14");
        checkCode("(- (+ 1 2) (* 3 4))", "0 0 1 0 0 2 2 0 0 3 0 0 4 4 3 14");
        checkCode("(do 7)", "0 0 7 14");
        checkCode("(do 1 2 3)", "0 0 1 10 0 0 2 10 0 0 3 14");
        checkCode("(do (do 1 2) 3)", "0 0 1 10 0 0 2 10 0 0 3 14");
    }

    private static void checkJumps() {
        checkCode("(if 1 2 3)", "0 0 1 8 0 12 0 0 2 7 0 15 0 0 3 14");
        checkCode("(do 9 (if 1 2 3))", "0 0 9 10 0 0 1 8 0 16 0 0 2 7 0 19 0 0 3 14");
        checkCode("(if 1 (if 2 3 4) 5)",
                "0 0 1 8 0 24 0 0 2 8 0 18 0 0 3 7 0 21 0 0 4 7 0 27 0 0 5 14");
        checkCode("(run 0 1)", "0 0 0 8 0 13 0 0 1 10 7 0 0 0 0 0 14");
        checkCode("(do 9 (run 0 1))", "0 0 9 10 0 0 0 8 0 17 0 0 1 10 7 0 4 0 0 0 14");
    }

    private static void checkSlots() {
        checkCode("(let x 5 (+ x x))", "0 0 5 1 0 1 0 2 9 14");
        checkCode("(let x 5 6)", "0 0 5 0 0 6 9 14");
        checkCode("(+ 1 (let x 5 x))", "0 0 1 0 0 5 1 1 9 2 14");
        checkCode("(+ (let x 5 x) 1)", "0 0 5 1 0 9 0 0 1 2 14");
        checkCode("(let x 1 (let y 2 (- y x)))", "0 0 1 0 0 2 1 1 1 0 3 9 9 14");
        checkCode("(let x 1 (let x 2 x))", "0 0 1 0 0 2 1 1 9 9 14");
        checkCode("(let x 1 (let x x x))", "0 0 1 1 0 1 1 9 9 14");
        checkCode("(let x 1 (+ (let x 2 x) x))", "0 0 1 0 0 2 1 1 9 1 0 2 9 14");
        checkCode("(let x 1 (let y (let z 2 z) y))", "0 0 1 0 0 2 1 1 9 1 1 9 9 14");
        checkCode("(let x 1 (set x 2))", "0 0 1 0 0 2 11 0 9 14");
        checkCode("(let x 1 (let y 2 (set x y)))", "0 0 1 0 0 2 1 1 11 0 9 9 14");
        checkCode("(let x 1 (let x 2 (set x 3)))", "0 0 1 0 0 2 0 0 3 11 1 9 9 14");
        checkCode("(do 1 (let x 2 x))", "0 0 1 10 0 0 2 1 0 9 14");
        checkCode("(if (let x 1 x) (let y 2 y) (let z 3 z))",
                "0 0 1 1 0 9 8 0 18 0 0 2 1 0 9 7 0 24 0 0 3 1 0 9 14");
        checkCode("(run (let x 0 x) (let y 2 y))",
                "0 0 0 1 0 9 8 0 19 0 0 2 1 0 9 10 7 0 0 0 0 0 14");
    }

    private static void checkCalls() {
        checkObject("(f)", "0 0 0 0 5 12 0 0 0 14 1 0 1 1 102");
        checkObject("(foo 1 (g 2))",
                "0 0 0 0 15 0 0 1 0 0 2 12 0 0 1 12 0 0 2 14 2 0 7 1 103 0 11 3 102 111 111");
        checkObject("(f 12 12)", "0 0 0 0 11 0 0 12 0 0 12 12 0 0 2 14 1 0 7 1 102");
        checkObject("(f 1 (let x 2 x))",
                "0 0 0 0 14 0 0 1 0 0 2 1 1 9 12 0 0 2 14 1 0 10 1 102");
        checkObject("(let f 1 (f f))", "0 0 0 0 11 0 0 1 1 0 12 0 0 1 9 14 1 0 6 1 102");
        checkObject("(wxyz)", "0 0 0 0 5 12 0 0 0 14 1 0 1 4 119 120 121 122");
        checkObject("(f 1 2 3 4 5)", "0 0 0 0 20 0 0 1 0 0 2 0 0 3 0 0 4 0 0 5 12 0 0 5 14"
                + " 1 0 16 1 102");
    }

    private static void checkFunctions() {
        checkObject("(def f () 1)", "1 1 102 0 0 5 0 0 1 13 0 0");
        checkObject("(def ab (x) x)", "1 2 97 98 1 0 4 1 0 13 1 0");
        checkObject("(def abcd (p q r s) (- s p))",
                "1 4 97 98 99 100 4 0 7 1 3 1 0 3 13 4 0");
        checkObject("(def f (a b) (let c a (+ c b)))",
                "1 1 102 2 0 10 1 0 1 2 1 1 2 9 13 2 0");
        checkObject("(def f (a) (let a 1 a))", "1 1 102 1 0 8 0 0 1 1 1 9 13 1 0");
        checkObject("(def f (a) (set a 2))", "1 1 102 1 0 7 0 0 2 11 0 13 1 0");
        checkObject("(def f (n) (f n))", "1 1 102 1 0 8 1 0 12 0 0 1 13 1 1 0 3 1 102");
        checkObject("(def f (if) if)", "1 1 102 1 0 4 1 0 13 1 0");
    }

    private static void checkObjectAnswers() {
        Trial trial = new Trial().with("(mac m () 1)", "(do" + Trial.repeat(" 1", 50) + ")");
        Trial.due("a macro's length", -1, trial.forge.object(0, -1));
        Trial.due("a macro's byte", -1, trial.forge.object(0, 0));
        Trial.due("a length", 206, trial.forge.object(1, -1));
        Trial.due("the code's length, higher", 0, trial.forge.object(1, 3));
        Trial.due("the code's length, lower", 200, trial.forge.object(1, 4));
        Trial.due("the last byte", 0, trial.forge.object(1, 205));
        Trial.due("the last but one", 14, trial.forge.object(1, 204));
        Trial.due("one behind", -1, trial.forge.object(1, 206));
        Trial.due("far behind", -1, trial.forge.object(1, Integer.MAX_VALUE));
        Trial.due("before -1", -1, trial.forge.object(1, -2));
        Trial.due("far before", -1, trial.forge.object(1, Integer.MIN_VALUE));
        for (int unit : new int[] {-1, 2, 15, 16, 17, Integer.MIN_VALUE, Integer.MAX_VALUE}) {
            Trial.due("the length of " + unit, -1, trial.forge.object(unit, -1));
            Trial.due("byte 0 of " + unit, -1, trial.forge.object(unit, 0));
        }
        String before = trial.object(1);
        trial.with("(def f () 1)", "2");
        Trial.due("objects stay", before, trial.object(1));
    }
}
