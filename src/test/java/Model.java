import java.nio.ByteBuffer;
import java.util.ArrayList;
import java.util.HashMap;
import java.util.List;
import java.util.Map;
import java.util.regex.Pattern;

/**
 * The document told a second time, by other means than LispForge's: texts are cut with patterns,
 * macros are copied out, code is made of labelled steps, and only then numbered.
 * Refusals are answered as Trial's numbers instead of thrown.
 */
final class Model {
    private static final Pattern NUMBER = Pattern.compile("-?[0-9]{1,4}");
    private static final Pattern SYMBOL = Pattern.compile("[a-z]{1,4}|[-+*<=]");
    private static final Pattern LETTERS = Pattern.compile("[a-z]{1,4}");
    private static final List<String> WORDS =
            List.of("def", "mac", "if", "let", "do", "set", "run");
    private static final List<String> SIGNS = List.of("+", "-", "*", "<", "=");
    // A leaf makes code, so that a body with so many forms has more than 200 bytes of it.
    private static final int TOO_MANY_FORMS = 20000;

    /** Thrown by the model's compiler alone. */
    private static final class Wrong extends RuntimeException {
        private static final long serialVersionUID = 1;
    }

    /** A form: an atom with its characters, or a list with its parts. */
    private static final class Tree {
        final String atom;
        final List<Tree> parts = new ArrayList<>();

        Tree(String atom) {
            this.atom = atom;
        }

        boolean isList() {
            return atom == null;
        }

        boolean isLetters() {
            return atom != null && LETTERS.matcher(atom).matches();
        }

        String head() {
            return isList() && !parts.isEmpty() ? parts.get(0).atom : null;
        }

        int behind() {
            return parts.size() - 1;
        }
    }

    /** A unit: kind 'm' a main, 'f' a function, 'x' a macro. */
    private static final class Piece {
        char kind = 'm';
        String name = "";
        final List<String> parameters = new ArrayList<>();
        Tree body;
        List<Integer> code = List.of();
        final List<Integer> fixPlaces = new ArrayList<>();
        final List<String> fixNames = new ArrayList<>();
        List<Integer> object = List.of();
        List<Integer> places = List.of();
    }

    private String text = "";
    private final List<Piece> pieces = new ArrayList<>();
    private int position = -1;
    private int failure = 0;
    private List<Integer> image = new ArrayList<>();
    private final List<Integer> stack = new ArrayList<>();
    private final List<int[]> calls = new ArrayList<>();
    private int state = 0;
    private int place = 0;
    private int frame = 0;
    private int steps = 0;

    private Piece making;
    private int replaced;
    private int forms;

    boolean write(long w) {
        StringBuilder piece = new StringBuilder();
        for (byte code : ByteBuffer.allocate(8).putLong(w).array()) {
            if (code != 0) {
                if (code < 32 || code > 126) {
                    return false;
                }
                piece.append((char) code);
            }
        }
        if (text.length() + piece.length() > 120) {
            return false;
        }
        text += piece;
        return true;
    }

    int compile() {
        String taken = text;
        text = "";
        position = -1;
        for (int length = 1; length <= taken.length(); length++) {
            if (!mayBegin(taken.substring(0, length))) {
                position = length - 1;
                return Trial.NO_FORM;
            }
        }
        if (!isWhole(taken)) {
            position = taken.length();
            return Trial.NO_FORM;
        }
        try {
            making = pieceOf(treeOf(taken));
        } catch (Wrong e) {
            return Trial.WRONG;
        }
        if (pieces.size() == 16) {
            return Trial.TOO_MANY;
        }
        pieces.add(making);
        return pieces.size() - 1;
    }

    int position() {
        return position;
    }

    int object(int unit, int k) {
        if (unit < 0 || unit >= pieces.size() || pieces.get(unit).kind == 'x') {
            return -1;
        }
        List<Integer> bytes = pieces.get(unit).object;
        return k == -1 ? bytes.size() : k < 0 || k >= bytes.size() ? -1 : bytes.get(k);
    }

    void clear() {
        pieces.clear();
    }

    int link() {
        failure = 0;
        List<Piece> taken = new ArrayList<>();
        Piece main = latest('m', "");
        if (main == null) {
            failure = 1;
            return Trial.REFUSED;
        }
        taken.add(main);
        int length = 0;
        Map<Piece, Integer> begins = new HashMap<>();
        for (int k = 0; k < taken.size(); k++) {
            Piece piece = taken.get(k);
            begins.put(piece, length);
            length += piece.code.size();
            for (int fix = 0; fix < piece.fixNames.size(); fix++) {
                Piece called = latest('f', piece.fixNames.get(fix));
                int given = piece.code.get(piece.fixPlaces.get(fix) + 2);
                if (called == null || called.parameters.size() != given) {
                    failure = called == null ? 2 : 3;
                    return Trial.REFUSED;
                }
                if (!taken.contains(called)) {
                    taken.add(called);
                }
            }
        }
        if (length > 600) {
            failure = 4;
            return Trial.REFUSED;
        }
        image = new ArrayList<>();
        for (Piece piece : taken) {
            int begin = image.size();
            image.addAll(piece.code);
            for (int at : piece.places) {
                two(image, begin + at, two(piece.code, at) + begin);
            }
            for (int fix = 0; fix < piece.fixNames.size(); fix++) {
                Piece called = latest('f', piece.fixNames.get(fix));
                two(image, begin + piece.fixPlaces.get(fix), begins.get(called));
            }
        }
        begin();
        return image.size();
    }

    int failure() {
        return failure;
    }

    int image(int k) {
        return k == -1 ? image.size() : k < 0 || k >= image.size() ? -1 : image.get(k);
    }

    boolean restart() {
        if (state != 0) {
            begin();
        }
        return state != 0;
    }

    int run(int n) {
        if (n < 0 || n > 500) {
            return Trial.REFUSED;
        }
        int made = 0;
        for (; made < n && state == 1; made++) {
            step();
        }
        return made;
    }

    int about(int what) {
        int[] answers = {state, place, frame, stack.size(), calls.size(), steps};
        return what < 0 || what > 5 ? -1 : answers[what];
    }

    int stack(int k) {
        return k < 0 || k >= stack.size() ? 0 : stack.get(k);
    }

    int top() {
        return stack.isEmpty() ? 0 : stack.get(stack.size() - 1);
    }

    // Reading.

    /** Blanks round brackets, so that what stands between blanks is a bracket or an atom. */
    private static List<String> tokens(String text) {
        List<String> tokens = new ArrayList<>();
        for (String token : text.replace("(", " ( ").replace(")", " ) ").split(" ")) {
            if (!token.isEmpty()) {
                tokens.add(token);
            }
        }
        return tokens;
    }

    private static boolean mayBegin(String text) {
        int depth = 0;
        int outermost = 0;
        for (String token : tokens(text)) {
            if (token.equals(")")) {
                depth--;
            } else {
                outermost += depth == 0 ? 1 : 0;
                depth += token.equals("(") ? 1 : 0;
                if (!token.equals("(") && !isAtom(token)) {
                    return false;
                }
            }
            if (depth < 0 || depth > 8 || outermost > 1) {
                return false;
            }
        }
        return true;
    }

    private static boolean isAtom(String token) {
        return NUMBER.matcher(token).matches() || SYMBOL.matcher(token).matches();
    }

    private static boolean isWhole(String text) {
        int depth = 0;
        for (String token : tokens(text)) {
            depth += token.equals("(") ? 1 : token.equals(")") ? -1 : 0;
        }
        return depth == 0 && !tokens(text).isEmpty();
    }

    private static Tree treeOf(String text) {
        List<Tree> open = new ArrayList<>(List.of(new Tree(null)));
        for (String token : tokens(text)) {
            if (token.equals(")")) {
                open.remove(open.size() - 1);
                continue;
            }
            Tree tree = new Tree(token.equals("(") ? null : token);
            open.get(open.size() - 1).parts.add(tree);
            if (tree.isList()) {
                open.add(tree);
            }
        }
        return open.get(0).parts.get(0);
    }

    // Compiling.

    private Piece pieceOf(Tree tree) {
        Piece piece = new Piece();
        piece.body = tree;
        if ("def".equals(tree.head()) || "mac".equals(tree.head())) {
            require(tree.behind() == 3);
            piece.kind = tree.head().equals("def") ? 'f' : 'x';
            require(tree.parts.get(1).isLetters() && !WORDS.contains(tree.parts.get(1).atom));
            piece.name = tree.parts.get(1).atom;
            require(tree.parts.get(2).isList() && tree.parts.get(2).parts.size() <= 4);
            for (Tree parameter : tree.parts.get(2).parts) {
                require(parameter.isLetters() && !piece.parameters.contains(parameter.atom));
                piece.parameters.add(parameter.atom);
            }
            piece.body = tree.parts.get(3);
        }
        if (piece.kind != 'x') {
            replaced = 0;
            forms = 0;
            assemble(piece, expanded(piece.body));
        }
        return piece;
    }

    private static void require(boolean holds) {
        if (!holds) {
            throw new Wrong();
        }
    }

    private Piece latest(char kind, String name) {
        Piece found = null;
        for (Piece piece : pieces) {
            found = piece.kind == kind && piece.name.equals(name) ? piece : found;
        }
        return found;
    }

    private Tree expanded(Tree tree) {
        forms++;
        require(forms < TOO_MANY_FORMS);
        Piece macro = tree.head() == null ? null : latest('x', tree.head());
        if (macro != null) {
            require(tree.behind() == macro.parameters.size());
            replaced++;
            require(replaced <= 12);
            return expanded(filled(macro.body, macro.parameters, tree));
        }
        if (!tree.isList()) {
            return tree;
        }
        Tree list = new Tree(null);
        for (Tree part : tree.parts) {
            list.parts.add(expanded(part));
        }
        return list;
    }

    private static Tree filled(Tree body, List<String> parameters, Tree use) {
        if (!body.isList()) {
            int k = parameters.indexOf(body.atom);
            return k < 0 ? body : use.parts.get(k + 1);
        }
        Tree list = new Tree(null);
        for (Tree part : body.parts) {
            list.parts.add(filled(part, parameters, use));
        }
        return list;
    }

    /**
     * Makes rows of words: a byte, "to L" for a place that is told by label L, "at L" for the
     * label, "fix NAME" for a name's place.
     */
    private static final class Rows {
        final List<String> rows = new ArrayList<>();
        int labels = 0;

        void put(int... bytes) {
            for (int value : bytes) {
                rows.add(String.valueOf(value & 255));
            }
            require(rows.size() < 1000);
        }
    }

    private void assemble(Piece piece, Tree body) {
        Rows rows = new Rows();
        make(rows, body, piece.parameters);
        if (piece.kind == 'm') {
            rows.put(14);
        } else {
            rows.put(13, piece.parameters.size());
        }
        Map<String, Integer> labels = new HashMap<>();
        int length = 0;
        for (String row : rows.rows) {
            if (row.startsWith("at ")) {
                labels.put(row.substring(3), length);
            } else {
                length += row.indexOf(' ') > 0 ? 2 : 1;
            }
        }
        require(length <= 200);
        piece.code = new ArrayList<>();
        piece.places = new ArrayList<>();
        for (String row : rows.rows) {
            if (row.startsWith("to ")) {
                piece.places.add(piece.code.size());
                twoMore(piece.code, labels.get(row.substring(3)));
            } else if (row.startsWith("fix ")) {
                piece.fixPlaces.add(piece.code.size());
                piece.fixNames.add(row.substring(4));
                twoMore(piece.code, 0);
            } else if (!row.startsWith("at ")) {
                piece.code.add(Integer.parseInt(row));
            }
        }
        piece.object = objectOf(piece);
    }

    private static List<Integer> objectOf(Piece piece) {
        List<Integer> object = new ArrayList<>();
        object.add(piece.kind == 'm' ? 0 : 1);
        name(object, piece.name);
        object.add(piece.parameters.size());
        twoMore(object, piece.code.size());
        object.addAll(piece.code);
        object.add(piece.fixNames.size());
        for (int fix = 0; fix < piece.fixNames.size(); fix++) {
            twoMore(object, piece.fixPlaces.get(fix));
            name(object, piece.fixNames.get(fix));
        }
        return object;
    }

    private static void name(List<Integer> bytes, String name) {
        bytes.add(name.length());
        for (char letter : name.toCharArray()) {
            bytes.add((int) letter);
        }
    }

    private static void twoMore(List<Integer> bytes, int value) {
        bytes.add(value / 256);
        bytes.add(value % 256);
    }

    private static int two(List<Integer> bytes, int at) {
        return bytes.get(at) * 256 + bytes.get(at + 1);
    }

    private static void two(List<Integer> bytes, int at, int value) {
        bytes.set(at, value / 256);
        bytes.set(at + 1, value % 256);
    }

    /** The slots in use hold names, null where a number without one is. */
    private static void make(Rows rows, Tree tree, List<String> slots) {
        if (!tree.isList()) {
            if (NUMBER.matcher(tree.atom).matches()) {
                int number = Integer.parseInt(tree.atom);
                rows.put(0, number >> 8, number);
            } else {
                rows.put(1, slotOf(tree, slots));
            }
            return;
        }
        String head = tree.head();
        require(head != null && SYMBOL.matcher(head).matches());
        require(!head.equals("def") && !head.equals("mac"));
        if (SIGNS.contains(head)) {
            require(tree.behind() == 2);
            makeAll(rows, tree, slots);
            rows.put(2 + SIGNS.indexOf(head));
        } else if (WORDS.contains(head)) {
            makeWord(rows, tree, slots);
        } else {
            makeAll(rows, tree, slots);
            rows.put(12);
            rows.rows.add("fix " + head);
            rows.put(tree.behind());
        }
    }

    private static void makeWord(Rows rows, Tree tree, List<String> slots) {
        rows.labels++;
        String one = "a" + rows.labels;
        String other = "b" + rows.labels;
        List<Tree> parts = tree.parts;
        switch (tree.head()) {
            case "if":
                require(tree.behind() == 3);
                make(rows, parts.get(1), slots);
                rows.put(8);
                rows.rows.add("to " + one);
                make(rows, parts.get(2), slots);
                rows.put(7);
                rows.rows.add("to " + other);
                rows.rows.add("at " + one);
                make(rows, parts.get(3), slots);
                rows.rows.add("at " + other);
                break;
            case "let":
                require(tree.behind() == 3 && parts.get(1).isLetters());
                make(rows, parts.get(2), slots);
                make(rows, parts.get(3), with(slots, parts.get(1).atom));
                rows.put(9);
                break;
            case "do":
                require(tree.behind() >= 1);
                for (int k = 1; k < parts.size(); k++) {
                    if (k > 1) {
                        rows.put(10);
                    }
                    make(rows, parts.get(k), slots);
                }
                break;
            case "set":
                require(tree.behind() == 2 && parts.get(1).isLetters());
                make(rows, parts.get(2), slots);
                rows.put(11, slotOf(parts.get(1), slots));
                break;
            default:
                require(tree.behind() == 2);
                rows.rows.add("at " + one);
                make(rows, parts.get(1), slots);
                rows.put(8);
                rows.rows.add("to " + other);
                make(rows, parts.get(2), slots);
                rows.put(10, 7);
                rows.rows.add("to " + one);
                rows.rows.add("at " + other);
                rows.put(0, 0, 0);
                break;
        }
    }

    private static void makeAll(Rows rows, Tree tree, List<String> slots) {
        List<String> used = slots;
        for (Tree part : tree.parts.subList(1, tree.parts.size())) {
            make(rows, part, used);
            used = with(used, null);
        }
    }

    private static List<String> with(List<String> slots, String name) {
        List<String> more = new ArrayList<>(slots);
        more.add(name);
        return more;
    }

    private static int slotOf(Tree symbol, List<String> slots) {
        require(symbol.isLetters());
        int slot = slots.lastIndexOf(symbol.atom);
        require(slot >= 0);
        return slot;
    }

    // Running.

    private void begin() {
        stack.clear();
        calls.clear();
        state = 1;
        place = 0;
        frame = 0;
        steps = 0;
    }

    private int off() {
        return stack.remove(stack.size() - 1);
    }

    private void step() {
        int code = image.get(place);
        if (code <= 1 && stack.size() == 120 || code == 12 && calls.size() == 24) {
            state = 3;
            return;
        }
        steps++;
        if (code == 0) {
            int number = two(image, place + 1);
            stack.add(number < 32768 ? number : number - 65536);
            place += 3;
        } else if (code == 1) {
            stack.add(stack.get(frame + image.get(place + 1)));
            place += 2;
        } else if (code <= 6) {
            int y = off();
            int x = off();
            int[] results = {x + y, x - y, x * y, x < y ? 1 : 0, x == y ? 1 : 0};
            stack.add(results[code - 2]);
            place++;
        } else if (code == 7) {
            place = two(image, place + 1);
        } else if (code == 8) {
            place = off() == 0 ? two(image, place + 1) : place + 3;
        } else if (code == 9) {
            stack.remove(stack.size() - 2);
            place++;
        } else if (code == 10) {
            off();
            place++;
        } else if (code == 11) {
            stack.set(frame + image.get(place + 1), top());
            place += 2;
        } else if (code == 12) {
            calls.add(new int[] {frame, place + 4});
            frame = stack.size() - image.get(place + 3);
            place = two(image, place + 1);
        } else if (code == 13) {
            int result = off();
            stack.subList(frame, stack.size()).clear();
            stack.add(result);
            int[] back = calls.remove(calls.size() - 1);
            frame = back[0];
            place = back[1];
        } else {
            state = 2;
        }
    }
}
