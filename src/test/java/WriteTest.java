/** Promise 2: write. */
public final class WriteTest {
    public static void main(String[] args) {
        checkOrderAndZeros();
        checkCodes();
        checkRoom();
        checkNothingChanged();
        Trial.end();
    }

    private static void checkOrderAndZeros() {
        Trial trial = new Trial();
        Trial.due("zeros among the bytes", true, trial.forge.write(0x0028002B20310020L));
        Trial.due("only zeros", true, trial.forge.write(0L));
        Trial.due("the lowest byte alone", true, trial.forge.write((long) '2'));
        Trial.due("the highest byte alone", true, trial.forge.write((long) ')' << 56));
        Trial.due("the text is (+ 1 2)", 0, trial.compile());
        Trial.due("its object", "0 0 0 0 8 0 0 1 0 0 2 2 14 0", trial.object(0));
    }

    private static void checkCodes() {
        for (int code = 0; code < 256; code++) {
            boolean isGood = code == 0 || code >= 32 && code <= 126;
            for (int shift = 0; shift < 64; shift += 8) {
                Trial.due("byte " + code + " shifted by " + shift, isGood,
                        new LispForge().write((long) code << shift));
            }
        }
        Trial.due("a bad one behind good ones", false,
                new LispForge().write(0x616263646566677FL));
        Trial.due("a bad one before good ones", false,
                new LispForge().write(0x1F62636465666768L));
        Trial.due("all bits", false, new LispForge().write(-1L));
    }

    private static void checkRoom() {
        for (int written = 104; written <= 120; written++) {
            Trial trial = new Trial();
            trial.type(Trial.repeat(" ", written));
            for (int count = 0; count <= 8; count++) {
                boolean fits = written + count <= 120;
                Trial other = new Trial();
                other.type(Trial.repeat(" ", written));
                Trial.due(count + " behind " + written, fits,
                        other.forge.write(Trial.packed(Trial.repeat("1", count))));
                int length = fits ? written + count : written;
                boolean isForm = fits && count >= 1 && count <= 4;
                int compiled = other.compile();
                Trial.due("the text of " + length, isForm, compiled == 0);
                if (!isForm) {
                    Trial.due("the error in " + length, fits && count > 4 ? written + 4 : length,
                            other.forge.position());
                }
            }
        }
    }

    private static void checkNothingChanged() {
        Trial trial = new Trial();
        trial.type("(+ 1");
        Trial.due("a bad byte", false, trial.forge.write(0x2031320000000009L));
        trial.type(" 2)");
        Trial.due("the text has only the good ones", 0, trial.compile());

        trial.type("1" + Trial.repeat(" ", 117));
        Trial.due("three where two fit", false, trial.forge.write(Trial.packed("  )")));
        Trial.due("two where two fit", true, trial.forge.write(Trial.packed("  ")));
        Trial.due("one where none fits", false, trial.forge.write(Trial.packed(" ")));
        Trial.due("none where none fits", true, trial.forge.write(0L));
        Trial.due("a text of 120", 1, trial.compile());
        Trial.due("room again behind compile", true, trial.forge.write(Trial.packed("1234")));
        Trial.due("which took the text", 2, trial.compile());
    }
}
