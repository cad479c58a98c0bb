/** One object under test, with short ways to call it and to say what is due. */
final class Trial {
    static final int NO_FORM = -101;
    static final int WRONG = -102;
    static final int TOO_MANY = -103;
    static final int REFUSED = -104;

    private static int failures = 0;

    final LispForge forge = new LispForge();

    static void due(String what, long want, long got) {
        if (want != got) {
            failures++;
            System.out.println(what + ": due " + want + ", answered " + got);
        }
    }

    static void due(String what, String want, String got) {
        if (!want.equals(got)) {
            failures++;
            System.out.println(what + ": due " + want + ", answered " + got);
        }
    }

    static void due(String what, boolean want, boolean got) {
        due(what, want ? 1 : 0, got ? 1 : 0);
    }

    static void end() {
        System.out.println(failures == 0 ? "as due" : failures + " answers are not as due");
        if (failures != 0) {
            System.exit(1);
        }
    }

    static long packed(String characters) {
        long w = 0;
        for (int k = 0; k < 8; k++) {
            w = w << 8 | (k < characters.length() ? characters.charAt(k) : 0);
        }
        return w;
    }

    void type(String text) {
        for (int k = 0; k < text.length(); k += 8) {
            String piece = text.substring(k, Math.min(k + 8, text.length()));
            due("write of '" + piece + "'", true, forge.write(packed(piece)));
        }
    }

    int compile() {
        try {
            return forge.compile();
        } catch (IllegalArgumentException e) {
            return NO_FORM;
        } catch (UnsupportedOperationException e) {
            return WRONG;
        } catch (IllegalStateException e) {
            return TOO_MANY;
        }
    }

    int compile(String text) {
        type(text);
        return compile();
    }

    /** Compiles units that must all be good. */
    Trial with(String... texts) {
        for (String text : texts) {
            due("'" + text + "' is good", true, compile(text) >= 0);
        }
        return this;
    }

    int link() {
        try {
            return forge.link();
        } catch (IllegalStateException e) {
            return REFUSED;
        }
    }

    int run(int n) {
        try {
            return forge.run(n);
        } catch (IllegalArgumentException e) {
            return REFUSED;
        }
    }

    String object(int unit) {
        StringBuilder bytes = new StringBuilder();
        for (int k = 0; k < forge.object(unit, -1); k++) {
            bytes.append(k == 0 ? "" : " ").append(forge.object(unit, k));
        }
        return bytes.toString();
    }

    String image() {
        StringBuilder bytes = new StringBuilder();
        for (int k = 0; k < forge.image(-1); k++) {
            bytes.append(k == 0 ? "" : " ").append(forge.image(k));
        }
        return bytes.toString();
    }

    /** What about answers for 0 .. 5. */
    String about() {
        StringBuilder answers = new StringBuilder();
        for (int what = 0; what <= 5; what++) {
            answers.append(what == 0 ? "" : " ").append(forge.about(what));
        }
        return answers.toString();
    }

    String stack() {
        StringBuilder numbers = new StringBuilder();
        for (int k = 0; k < forge.about(3); k++) {
            numbers.append(k == 0 ? "" : " ").append(forge.stack(k));
        }
        return numbers.toString();
    }

    static String repeat(String text, int times) {
        return text.repeat(times);
    }
}
