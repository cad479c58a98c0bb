/** Promises 3 and 4: which texts are forms, and the position of the error in the others. */
public final class ReadTest {
    private static final String[] FORMS = {
        "0", "9999", "-9999", "-0", "0000", "  7", "7  ", " -7 ", "(f)", " ( f ) ",
        "(f(g)(h 1)2)", "(f 1(g)2)", "(+ 1 2)", "(- 1 2)", "(-(f)1)", "(- -1 -2)", "(abcd)",
        "(f  1)", "(do(do(do(do(do(do(do(f))))))))", "(= 1(f))", "(<(f)1)", "(*(f)(f))",
    };

    // Such texts are forms, but say nothing that compiles.
    private static final String[] WRONG_FORMS = {
        "+", "-", "*", "<", "=", "a", "abcd", "()", "( )", "(())", "(1)", "((((((((1))))))))",
        "(((((((())))))))", "(+)", "(+ -)", "((()())())", " z ",
    };

    private static final String[] NO_FORMS = {
        "", "   ", "(", "( ", "(f", "(f ", "(f (g)", "(-", "(-1", "(+ 1", "((((((((",
    };

    public static void main(String[] args) {
        for (String text : FORMS) {
            checkText(text, 0, -1);
        }
        for (String text : WRONG_FORMS) {
            checkText(text, Trial.WRONG, -1);
        }
        for (String text : NO_FORMS) {
            checkText(text, Trial.NO_FORM, text.length());
        }
        checkErrors();
        checkEveryCharacter();
        checkWhenPositionGoes();
        Trial.end();
    }

    private static void checkText(String text, int due, int position) {
        Trial trial = new Trial();
        Trial.due("'" + text + "'", due, trial.compile(text));
        Trial.due("the position in '" + text + "'", position, trial.forge.position());
    }

    private static void checkError(String text, int position) {
        checkText(text, Trial.NO_FORM, position);
    }

    private static void checkErrors() {
        checkError("12345", 4);
        checkError("-12345", 5);
        checkError("abcde", 4);
        checkError("(f 12345)", 7);
        checkError("(f abcde)", 7);
        checkError("1a", 1);
        checkError("a1", 1);
        checkError("-a", 1);
        checkError("--", 1);
        checkError("-1-", 2);
        checkError("+1", 1);
        checkError("*a", 1);
        checkError("a+", 1);
        checkError("1+", 1);
        checkError("<=", 1);
        checkError("(+1 2)", 2);
        checkError("(f-1)", 2);
        checkError("1 2", 2);
        checkError("1(", 1);
        checkError("1 (", 2);
        checkError("1)", 1);
        checkError("a b", 2);
        checkError(")", 0);
        checkError("  )", 2);
        checkError("(f))", 3);
        checkError("(f)(", 3);
        checkError("(f) g", 4);
        checkError("(f)1", 3);
        checkError("((((((((( ", 8);
        checkError("(((((((()(", 10);
        checkError("(((((((()()(()))))))))", 12);
        checkError("(f (((((((1)))))))) )", 20);
        checkError("(f ((((((((1)))))))))", 10);
        checkError("- 1", 2);
        checkError("(f A)", 3);
        checkError("(f 1.5)", 4);
        checkError(Trial.repeat(" ", 119) + "(", 120);
        checkError(Trial.repeat(" ", 119) + ")", 119);
        checkText(Trial.repeat(" ", 116) + "1234", 0, -1);
    }

    private static void checkEveryCharacter() {
        for (char c = 32; c <= 126; c++) {
            boolean isLetter = c >= 'a' && c <= 'z';
            boolean isDigit = c >= '0' && c <= '9';
            boolean isSign = "+-*<=".indexOf(c) >= 0;
            if (c == ' ' || c == '(') {
                checkError("" + c, 1);
            } else if (isDigit) {
                checkText("" + c, 0, -1);
            } else if (isLetter || isSign) {
                checkText("" + c, Trial.WRONG, -1);
            } else {
                checkError("" + c, 0);
            }
            if (!isLetter && c != ' ' && c != '(' && c != ')') {
                checkError("(ab" + c + ")", 3);
            }
            if (!isDigit && c != ' ' && c != '(' && c != ')') {
                checkError("(f 1" + c + ")", 4);
            }
        }
    }

    private static void checkWhenPositionGoes() {
        Trial trial = new Trial();
        trial.compile("(+ 1 A)");
        Trial.due("behind no form", 5, trial.forge.position());
        trial.forge.clear();
        trial.link();
        trial.run(501);
        trial.type("1");
        Trial.due("it stays until the next compile", 5, trial.forge.position());
        Trial.due("the text was taken", 0, trial.compile());
        Trial.due("a good one takes it away", -1, trial.forge.position());
        Trial.due("no text is left", Trial.NO_FORM, trial.compile());
        Trial.due("so that the error is at once", 0, trial.forge.position());
        Trial.due("a wrong one", Trial.WRONG, trial.compile("x"));
        Trial.due("takes it away, too", -1, trial.forge.position());
        Trial.due("and takes the text", Trial.NO_FORM, trial.compile());
        Trial.due("the position of no text", 0, trial.forge.position());
    }
}
