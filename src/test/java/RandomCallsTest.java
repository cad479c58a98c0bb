import java.util.Random;

/** Any call in any state answers or throws what the document names, and two objects agree. */
public final class RandomCallsTest {
    private static final String[] UNITS = {
        "(def f (n) (if (< n 2) 1 (* n (f (- n 1)))))", "(f 5)", "(mac m (x y) (+ x (m y x)))",
        "(mac d (x) (+ x x))", "(d (d 3))", "(m 1 2)", "(def g () (g))", "(g)", "(f)", "(h)",
        "(let i 0 (run (< i 9) (set i (+ i 1))))", "(def f (a b) (- a b))", "(f 1 2)", "7", "(",
        "(+ 1)", ")", "(def h (a) (+ 1 (+ 2 (+ 3 (h a)))))", "(h 1)", "x",
    };
    private static final String CHARACTERS = "(((()))) 1290abdefgmx+-*<=  ";

    public static void main(String[] args) {
        for (int seed = 0; seed < 400; seed++) {
            String once = answers(seed);
            Trial.due("run " + seed + " tells the same again", once, answers(seed));
        }
        Trial.end();
    }

    private static String answers(int seed) {
        Random random = new Random(seed);
        LispForge forge = new LispForge();
        StringBuilder answers = new StringBuilder();
        for (int call = 0; call < 512; call++) {
            int kind = random.nextInt(16);
            if (kind < 3) {
                String text = UNITS[random.nextInt(UNITS.length)];
                for (int k = 0; k < text.length(); k += 8) {
                    String piece = text.substring(k, Math.min(k + 8, text.length()));
                    answers.append(forge.write(Trial.packed(piece)));
                }
                kind = 4;
            }
            try {
                answers.append(answer(forge, kind, random)).append(' ');
            } catch (IllegalArgumentException e) {
                Trial.due("IllegalArgumentException of " + kind, true, kind == 4 || kind == 9);
                answers.append("no ");
            } catch (UnsupportedOperationException e) {
                Trial.due("UnsupportedOperationException of " + kind, true, kind == 4);
                answers.append("wrong ");
            } catch (IllegalStateException e) {
                Trial.due("IllegalStateException of " + kind, true, kind == 4 || kind == 7);
                answers.append("refused ");
            }
        }
        return answers.toString();
    }

    private static int answer(LispForge forge, int kind, Random random) {
        int any = random.nextInt(4) == 0 ? random.nextInt() : random.nextInt(40) - 5;
        switch (kind) {
            case 3:
                return forge.write(characters(random)) ? 1 : 0;
            case 4:
                return forge.compile();
            case 5:
                return forge.position();
            case 6:
                return forge.object(any, random.nextInt(40) - 3);
            case 7:
                return forge.link();
            case 8:
                return forge.failure();
            case 9:
                return forge.run(any * 13);
            case 10:
                return forge.image(any);
            case 11:
                return forge.restart() ? 1 : 0;
            case 12:
                return forge.about(any % 7);
            case 13:
                return forge.stack(any);
            case 14:
                return forge.top();
            default:
                if (random.nextInt(8) == 0) {
                    forge.clear();
                }
                return forge.write(random.nextLong()) ? 1 : 0;
        }
    }

    private static long characters(Random random) {
        StringBuilder piece = new StringBuilder();
        for (int k = random.nextInt(9); k > 0; k--) {
            piece.append(CHARACTERS.charAt(random.nextInt(CHARACTERS.length())));
        }
        return Trial.packed(piece.toString());
    }
}
