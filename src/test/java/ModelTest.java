import java.util.ArrayList;
import java.util.HashMap;
import java.util.List;
import java.util.Map;
import java.util.Random;

/** Every answer to random units, links and steps is the one that the second model gives. */
public final class ModelTest {
    private static final int CALLS = 512;
    private static final String[] FUNCTIONS = {"f", "g", "hhhh", "m"};
    private static final String[] MACROS = {"m", "n", "kk", "f"};
    private static final String[] VARIABLES = {"x", "y", "z", "if", "def", "m"};
    private static final String[] SIGNS = {"+", "-", "*", "<", "="};
    private static final String STRAY = "() -+*<=09azAZ~!(((()))) ";

    private final Random random;
    private final Trial trial = new Trial();
    private final Model model = new Model();
    private final Map<String, Integer> arities = new HashMap<>();
    private final StringBuilder calls = new StringBuilder();
    private final String run;
    private int left = CALLS;

    private ModelTest(int seed) {
        random = new Random(seed);
        run = "run " + seed + ": ";
    }

    public static void main(String[] args) {
        int runs = args.length > 0 ? Integer.parseInt(args[0]) : 1000;
        int first = args.length > 1 ? Integer.parseInt(args[1]) : 0;
        for (int seed = first; seed < first + runs; seed++) {
            new ModelTest(seed).makeCalls();
        }
        Trial.end();
    }

    private void makeCalls() {
        while (left > 0) {
            int kind = random.nextInt(16);
            if (kind < 7) {
                String text = unit();
                compile(random.nextInt(6) == 0 ? spoilt(text) : text);
            } else if (kind < 10) {
                link();
            } else if (kind < 13) {
                int n = random.nextInt(3) == 0 ? random.nextInt(520) - 10 : random.nextInt(40);
                same("run " + n, model.run(n), trial.run(n));
            } else if (kind == 13 && random.nextInt(6) == 0) {
                clear();
            } else if (kind == 15 && random.nextInt(8) == 0) {
                compileProgram();
            } else if (kind == 14 && random.nextInt(4) == 0) {
                same("restart", model.restart() ? 1 : 0, trial.forge.restart() ? 1 : 0);
            } else {
                look();
            }
        }
    }

    /** What an object answers behind its last call is free. */
    private void same(String call, int want, int got) {
        left--;
        calls.append(call).append("; ");
        if (left >= 0 && want != got) {
            Trial.due(run + calls, want, got);
        }
    }

    private void clear() {
        model.clear();
        trial.forge.clear();
        same("clear", 0, 0);
    }

    private void link() {
        same("link", model.link(), trial.link());
        same("failure", model.failure(), trial.forge.failure());
    }

    private void look() {
        int unit = random.nextInt(18) - 1;
        int part = random.nextInt(60) - 2;
        int place = random.nextInt(600) - 2;
        switch (random.nextInt(5)) {
            case 0:
                same("object", model.object(unit, part), trial.forge.object(unit, part));
                same("length", model.object(unit, -1), trial.forge.object(unit, -1));
                break;
            case 1:
                same("image", model.image(place), trial.forge.image(place));
                same("image", model.image(part), trial.forge.image(part));
                break;
            case 2:
                same("stack", model.stack(part), trial.forge.stack(part));
                same("top", model.top(), trial.forge.top());
                break;
            default:
                for (int what = -1; what <= 6; what++) {
                    same("about " + what, model.about(what), trial.forge.about(what));
                }
                break;
        }
    }

    private void write(String text) {
        int size = 8;
        for (int k = 0; k < text.length(); k += size) {
            size = random.nextInt(6) == 0 ? random.nextInt(9) : 8;
            long w = Trial.packed(text.substring(k, Math.min(k + size, text.length())));
            if (random.nextInt(300) == 0) {
                w ^= random.nextLong();
            }
            same("write " + w, model.write(w) ? 1 : 0, trial.forge.write(w) ? 1 : 0);
        }
    }

    private void compile(String text) {
        write(text);
        int number = model.compile();
        same("compile " + text, number, trial.compile());
        same("position", model.position(), trial.forge.position());
        int length = model.object(number, -1);
        same("length", length, trial.forge.object(number, -1));
        int from = length > 8 ? random.nextInt(length - 7) : 0;
        for (int k = from; k < from + 8; k++) {
            same("object", model.object(number, k), trial.forge.object(number, k));
        }
    }

    // What is written: mostly good units, so that what they mean is compared as well.

    private String unit() {
        int kind = random.nextInt(10);
        int depth = 1 + random.nextInt(4);
        if (kind < 5) {
            boolean isMacro = kind < 3;
            List<String> parameters = parameters();
            String name = any(isMacro ? MACROS : FUNCTIONS);
            arities.put(name, parameters.size());
            return "(" + (isMacro ? "mac " : "def ") + name + " (" + String.join(" ", parameters)
                    + ")" + form(depth, parameters) + ")";
        }
        if (kind == 5) {
            return "(let x " + form(1, List.of()) + form(depth + 1, List.of("x")) + ")";
        }
        if (kind == 6) {
            return unitNearLimits();
        }
        return form(depth + 1, List.of());
    }

    /** A unit that nearly fills text, lists or code, or is too much for them. */
    private String unitNearLimits() {
        int many = 6 + random.nextInt(4);
        switch (random.nextInt(4)) {
            case 0:
                return longFunction(any(FUNCTIONS));
            case 1:
                return "(do" + " 1".repeat(48 + random.nextInt(6)) + ")";
            case 2:
                return "(+ 1".repeat(many) + form(0, List.of()) + ")".repeat(many);
            default:
                return "(let x 0 (let y 1 (do (run (< x " + random.nextInt(20)
                        + ") (do (set x (+ x 1))" + form(2, List.of("x", "y")) + "))x)))";
        }
    }

    private String longFunction(String name) {
        StringBuilder row = new StringBuilder();
        int numbers = 20 + random.nextInt(32);
        for (int k = 0; k < 50; k++) {
            row.append(k < numbers ? " 1" : " x");
        }
        arities.put(name, 1);
        return "(def " + name + " (x)(do" + row.substring(2 * random.nextInt(7)) + "))";
    }

    /** Functions that fill an image together, or a stack alone, and a main that calls them. */
    private void compileProgram() {
        clear();
        if (random.nextBoolean()) {
            int pending = random.nextInt(6);
            compile("(def f (x) " + "(+ x".repeat(pending) + "(f (+ x 1))"
                    + ")".repeat(pending + 1));
            arities.put("f", 1);
            compile("(+ 1".repeat(pending) + "(f 0)" + ")".repeat(pending));
        } else {
            compile(longFunction("f"));
            compile(longFunction("g"));
            compile(longFunction("hhhh"));
            compile("(do (f 1) (g 1) (hhhh 1)" + " 1".repeat(random.nextInt(9)) + ")");
        }
        link();
        same("run 500", model.run(500), trial.run(500));
        look();
    }

    private String spoilt(String unit) {
        StringBuilder spoilt = new StringBuilder(unit);
        int at = random.nextInt(unit.length());
        char stray = STRAY.charAt(random.nextInt(STRAY.length()));
        switch (random.nextInt(4)) {
            case 0:
                spoilt.setCharAt(at, stray);
                break;
            case 1:
                spoilt.insert(at, stray);
                break;
            case 2:
                spoilt.deleteCharAt(at);
                break;
            default:
                spoilt.setLength(at);
                break;
        }
        return spoilt.toString();
    }

    private List<String> parameters() {
        List<String> parameters = new ArrayList<>();
        for (int k = random.nextInt(random.nextInt(6) == 0 ? 6 : 3); k > 0; k--) {
            String parameter = any(VARIABLES);
            if (!parameters.contains(parameter) || random.nextInt(20) == 0) {
                parameters.add(parameter);
            }
        }
        return parameters;
    }

    private String any(String[] words) {
        return words[random.nextInt(random.nextInt(3) == 0 ? words.length : words.length / 2)];
    }

    private String symbol(List<String> around) {
        return around.isEmpty() || random.nextInt(40) == 0
                ? any(VARIABLES) : around.get(random.nextInt(around.size()));
    }

    private String number() {
        return random.nextInt(9) > 0 ? "" + random.nextInt(3)
                : (random.nextBoolean() ? "-" : "") + random.nextInt(10000);
    }

    /** A form with a blank before it, so that it may follow any other. */
    private String form(int depth, List<String> around) {
        int kind = random.nextInt(depth <= 0 ? 5 : 18);
        if (kind < 5) {
            return " " + (kind < 2 || around.isEmpty() ? number() : symbol(around));
        }
        String list;
        switch (kind) {
            case 5:
            case 6:
                list = any(SIGNS) + forms(2, depth, around);
                break;
            case 7:
                list = "if" + forms(3, depth, around);
                break;
            case 8:
                String name = any(VARIABLES);
                List<String> inside = new ArrayList<>(around);
                inside.add(name);
                list = "let " + name + form(depth - 1, around) + form(depth - 1, inside);
                break;
            case 9:
                list = "do" + forms(1 + random.nextInt(3), depth, around);
                break;
            case 10:
                list = "set " + symbol(around) + forms(1, depth, around);
                break;
            case 11:
                list = "run" + forms(2, depth, around);
                break;
            case 12:
                list = random.nextInt(5) == 0 ? forms(random.nextInt(4), depth, around)
                        : symbol(around) + forms(1, depth, around);
                break;
            default:
                String called = any(random.nextBoolean() ? FUNCTIONS : MACROS);
                list = called + forms(arities.getOrDefault(called, 1), depth, around);
                break;
        }
        return " (" + list + ")";
    }

    private String forms(int count, int depth, List<String> around) {
        StringBuilder forms = new StringBuilder();
        int due = random.nextInt(50) == 0 ? count + 1 : count;
        for (int k = 0; k < due; k++) {
            forms.append(form(depth - 1 - random.nextInt(2), around));
        }
        return forms.toString();
    }
}
