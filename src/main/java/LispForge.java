import java.util.Arrays;

/**
 * A compiler for a small list language with macros, a linker for the objects that it makes of
 * units, and the stack machine that runs what was linked.
 */
public final class LispForge {
    public static final int NONE = -1;

    private static final int TEXT_ROOM = 120;
    private static final int LOWEST_CHARACTER = 32;
    private static final int HIGHEST_CHARACTER = 126;
    private static final int LONGEST_ATOM = 4;
    private static final int DEEPEST_LIST = 8;
    private static final int UNIT_ROOM = 16;
    private static final int PARAMETER_ROOM = 4;
    private static final int CODE_ROOM = 200;
    private static final int IMAGE_ROOM = 600;
    private static final int STACK_ROOM = 120;
    private static final int CALL_ROOM = 24;
    private static final int MOST_STEPS = 500;
    private static final int MOST_REPLACED = 12;

    // A text gives 8 lists in one another, and each of 12 macros adds at most 6 more: 80 in all.
    private static final int DEEPEST_BODY = 100;
    // Every list in another may be one let.
    private static final int BOUND_ROOM = PARAMETER_ROOM + DEEPEST_BODY;
    // A call takes four bytes of code, and its fix at most seven of the object.
    private static final int FIX_ROOM = CODE_ROOM / 4;
    private static final int FILE_ROOM = 10 + CODE_ROOM + 7 * FIX_ROOM;

    private static final int NUMBER = 0;
    private static final int SYMBOL = 1;
    private static final int LIST = 2;

    // MAIN and FUNCTION are also the first byte of such a unit's object.
    private static final int MAIN = 0;
    private static final int FUNCTION = 1;
    private static final int MACRO = 2;
    private static final int NO_NAME = 0;

    // A symbol is held as its characters' codes, eight bits each, the last one lowest.
    private static final int DEF = 'd' << 16 | 'e' << 8 | 'f';
    private static final int MAC = 'm' << 16 | 'a' << 8 | 'c';
    private static final int IF = 'i' << 8 | 'f';
    private static final int LET = 'l' << 16 | 'e' << 8 | 't';
    private static final int DO = 'd' << 8 | 'o';
    private static final int SET = 's' << 16 | 'e' << 8 | 't';
    private static final int RUN = 'r' << 16 | 'u' << 8 | 'n';

    private static final int PUT_NUMBER = 0;
    private static final int PUT_SLOT = 1;
    private static final int ADD = 2;
    private static final int SUBTRACT = 3;
    private static final int MULTIPLY = 4;
    private static final int LESS = 5;
    private static final int EQUAL = 6;
    private static final int JUMP = 7;
    private static final int JUMP_IF_ZERO = 8;
    private static final int TAKE_OUT_BELOW = 9;
    private static final int DROP = 10;
    private static final int STORE = 11;
    private static final int CALL = 12;
    private static final int RETURN = 13;
    private static final int HALT = 14;
    private static final int[] STEP_LENGTHS = {3, 2, 1, 1, 1, 1, 1, 3, 3, 1, 1, 2, 4, 2, 1};

    private static final int LINKED = 0;
    private static final int NO_MAIN = 1;
    private static final int NO_FUNCTION = 2;
    private static final int OTHER_PARAMETERS = 3;
    private static final int TOO_LONG = 4;

    private static final int IDLE = 0;
    private static final int RUNNING = 1;
    private static final int DONE = 2;
    private static final int FULL = 3;

    private final Bytes text = new Bytes(TEXT_ROOM);
    private final Reader reader = new Reader();
    private final Shelf shelf = new Shelf();
    private final Compiler compiler = new Compiler(shelf);
    private final Linker linker = new Linker(shelf);
    private final Machine machine = new Machine();
    private int errorPosition = NONE;
    private int linkFailure = LINKED;

    public LispForge() {
    }

    public boolean write(long w) {
        int added = 0;
        for (int shift = 56; shift >= 0; shift -= 8) {
            int character = characterAt(w, shift);
            if (character != 0) {
                if (character < LOWEST_CHARACTER || character > HIGHEST_CHARACTER) {
                    return false;
                }
                added++;
            }
        }
        if (added > text.room()) {
            return false;
        }
        for (int shift = 56; shift >= 0; shift -= 8) {
            int character = characterAt(w, shift);
            if (character != 0) {
                text.put(character);
            }
        }
        return true;
    }

    public int compile()
            throws IllegalArgumentException, UnsupportedOperationException, IllegalStateException {
        Form form = reader.read(text);
        text.empty();
        errorPosition = form == null ? reader.errorPosition : NONE;
        if (form == null) {
            throw new IllegalArgumentException("the text is no form");
        }
        Unit unit = compiler.unitOf(form);
        if (unit.kind != MACRO) {
            compiler.complete(unit);
        }
        if (shelf.isFull()) {
            throw new IllegalStateException("there are 16 units");
        }
        return shelf.put(unit);
    }

    public int position() {
        return errorPosition;
    }

    public int object(int unit, int k) {
        Unit asked = shelf.unit(unit);
        return asked == null || asked.kind == MACRO ? NONE : asked.file.lengthOrByte(k);
    }

    public void clear() {
        shelf.empty();
    }

    public int link() throws IllegalStateException {
        linkFailure = linker.gather();
        if (linkFailure != LINKED) {
            throw new IllegalStateException("the units do not link");
        }
        linker.fill(machine.program);
        machine.begin();
        return machine.program.length;
    }

    public int failure() {
        return linkFailure;
    }

    public int image(int k) {
        return machine.program.lengthOrByte(k);
    }

    public boolean restart() {
        if (machine.state == IDLE) {
            return false;
        }
        machine.begin();
        return true;
    }

    public int run(int n) throws IllegalArgumentException {
        if (n < 0 || n > MOST_STEPS) {
            throw new IllegalArgumentException("the number of steps is not 0 .. 500");
        }
        return machine.makeSteps(n);
    }

    public int about(int what) {
        switch (what) {
            case 0:
                return machine.state;
            case 1:
                return machine.place;
            case 2:
                return machine.frame;
            case 3:
                return machine.size;
            case 4:
                return machine.calls;
            case 5:
                return machine.steps;
            default:
                return NONE;
        }
    }

    public int stack(int k) {
        return machine.numberAt(k);
    }

    public int top() {
        return machine.numberAt(machine.size - 1);
    }

    private static int characterAt(long w, int shift) {
        return (int) (w >>> shift) & 0xFF;
    }

    private static boolean isOfLetters(int symbol) {
        return (symbol & 0xFF) >= 'a';
    }

    /** A row of bytes that grows up to the room that it was made with. */
    private static final class Bytes {
        private final int[] row;
        private int length;

        Bytes(int room) {
            row = new int[Math.max(room, 0)];
        }

        Bytes copy() {
            Bytes same = new Bytes(length);
            same.putAll(this);
            return same;
        }

        int room() {
            return row.length - length;
        }

        void empty() {
            length = 0;
        }

        void put(int value) {
            if (length < row.length) {
                row[length] = value & 0xFF;
                length++;
            }
        }

        void putTwo(int value) {
            put(value >> 8);
            put(value);
        }

        void putName(int name) {
            int letters = 0;
            for (int shift = 24; shift >= 0; shift -= 8) {
                letters += (name >> shift & 0xFF) == 0 ? 0 : 1;
            }
            put(letters);
            for (int shift = 8 * (letters - 1); shift >= 0; shift -= 8) {
                put(name >> shift);
            }
        }

        void putAll(Bytes other) {
            for (int k = 0; k < other.length; k++) {
                put(other.at(k));
            }
        }

        void setTwo(int k, int value) {
            if (k >= 0 && k < length - 1) {
                row[k] = value >> 8 & 0xFF;
                row[k + 1] = value & 0xFF;
            }
        }

        int at(int k) {
            return k >= 0 && k < length ? row[k] : NONE;
        }

        int twoAt(int k) {
            return k >= 0 && k < length - 1 ? row[k] << 8 | row[k + 1] : NONE;
        }

        int lengthOrByte(int k) {
            return k == -1 ? length : at(k);
        }
    }

    /** A number, a symbol, or a list with its parts as a chain. */
    private static final class Form {
        private int kind;
        private int value;
        private int size;
        private Form first;
        private Form last;
        private Form next;

        Form(int kind, int value) {
            this.kind = kind;
            this.value = value;
        }

        boolean isSymbolOfLetters() {
            return kind == SYMBOL && isOfLetters(value);
        }

        void append(Form part) {
            if (last == null) {
                first = part;
            } else {
                last.next = part;
            }
            last = part;
            size++;
        }

        Form part(int k) {
            Form part = first;
            for (int passed = 0; passed < k && part != null; passed++) {
                part = part.next;
            }
            return part;
        }
    }

    /** Makes a form of a text, character by character, so that the first wrong one is known. */
    private static final class Reader {
        private final Form[] open = new Form[DEEPEST_LIST];
        private int depth;
        private Form whole;
        private Form atom;
        private int atomLength;
        private boolean isNegative;
        private int errorPosition;

        /** Answers null, with the error's position kept, if the text is no form. */
        Form read(Bytes text) {
            depth = 0;
            whole = null;
            atom = null;
            for (int k = 0; k < text.length; k++) {
                if (!takes(text.at(k))) {
                    errorPosition = k;
                    return null;
                }
            }
            errorPosition = text.length;
            return depth == 0 ? whole : null;
        }

        private boolean takes(int character) {
            if (lengthensAtom(character)) {
                return true;
            }
            boolean touchesAtom = atom != null;
            atom = null;
            switch (character) {
                case ' ':
                    return true;
                case '(':
                    return opensList();
                case ')':
                    return closesList();
                default:
                    return !touchesAtom && beginsAtom(character);
            }
        }

        private boolean lengthensAtom(int character) {
            if (atom == null) {
                return false;
            }
            if (isDigit(character)) {
                return addsDigit(character - '0');
            }
            if (!isLetter(character) || !atom.isSymbolOfLetters() || atomLength == LONGEST_ATOM) {
                return false;
            }
            atom.value = atom.value << 8 | character;
            atomLength++;
            return true;
        }

        private boolean addsDigit(int digit) {
            if (atom.kind == SYMBOL && atom.value == '-') {
                // Only the digit tells that the - was not the symbol.
                atom.kind = NUMBER;
                atom.value = 0;
                atomLength = 0;
                isNegative = true;
            }
            if (atom.kind != NUMBER || atomLength == LONGEST_ATOM) {
                return false;
            }
            atom.value = atom.value * 10 + (isNegative ? -digit : digit);
            atomLength++;
            return true;
        }

        private boolean beginsAtom(int character) {
            boolean isNumber = isDigit(character);
            if (!isNumber && !isLetter(character) && !isSign(character)) {
                return false;
            }
            atom = new Form(isNumber ? NUMBER : SYMBOL, isNumber ? character - '0' : character);
            atomLength = 1;
            isNegative = false;
            return adds(atom);
        }

        private boolean opensList() {
            if (depth >= DEEPEST_LIST) {
                return false;
            }
            Form list = new Form(LIST, 0);
            if (!adds(list)) {
                return false;
            }
            open[depth] = list;
            depth++;
            return true;
        }

        private boolean closesList() {
            if (depth == 0) {
                return false;
            }
            depth--;
            return true;
        }

        private boolean adds(Form form) {
            Form around = depth > 0 && depth <= DEEPEST_LIST ? open[depth - 1] : null;
            if (around != null) {
                around.append(form);
                return true;
            }
            if (whole != null) {
                return false;
            }
            whole = form;
            return true;
        }

        private static boolean isDigit(int character) {
            return character >= '0' && character <= '9';
        }

        private static boolean isLetter(int character) {
            return character >= 'a' && character <= 'z';
        }

        private static boolean isSign(int character) {
            return character == '+' || character == '-' || character == '*'
                    || character == '<' || character == '=';
        }
    }

    /** What a form says; a macro's code, file and fixes stay empty. */
    private static final class Unit {
        private final int kind;
        private final int name;
        private final int[] parameters;
        private final Form body;
        private Bytes code = new Bytes(0);
        private Bytes file = new Bytes(0);
        private int[] fixPlaces = new int[0];
        private int[] fixNames = new int[0];

        Unit(int kind, int name, int[] parameters, Form body) {
            this.kind = kind;
            this.name = name;
            this.parameters = parameters;
            this.body = body;
        }
    }

    /** The units by their numbers. */
    private static final class Shelf {
        private final Unit[] units = new Unit[UNIT_ROOM];
        private int count;

        boolean isFull() {
            return count >= UNIT_ROOM;
        }

        int put(Unit unit) {
            if (isFull()) {
                return NONE;
            }
            units[count] = unit;
            count++;
            return count - 1;
        }

        void empty() {
            count = 0;
        }

        Unit unit(int number) {
            return number >= 0 && number < count ? units[number] : null;
        }

        Unit latest(int kind, int name) {
            for (int number = count - 1; number >= 0; number--) {
                Unit unit = units[number];
                if (unit != null && unit.kind == kind && unit.name == name) {
                    return unit;
                }
            }
            return null;
        }
    }

    /**
     * One use of a macro. Its body is not copied: a form of it is read together with its
     * replacement, so that even arguments that double at every use take no room.
     */
    private static final class Replacement {
        private final Unit macro;
        private final Form firstArgument;
        private final Replacement around;

        Replacement(Unit macro, Form firstArgument, Replacement around) {
            this.macro = macro;
            this.firstArgument = firstArgument;
            this.around = around;
        }

        /** Answers null if the symbol is no parameter. */
        Form argumentFor(int symbol) {
            Form argument = firstArgument;
            for (int k = 0; k < macro.parameters.length && argument != null; k++) {
                if (macro.parameters[k] == symbol) {
                    return argument;
                }
                argument = argument.next;
            }
            return null;
        }
    }

    /** Makes units of forms; what is wrong is thrown as an UnsupportedOperationException. */
    private static final class Compiler {
        private final Shelf shelf;
        private final Bytes code = new Bytes(CODE_ROOM);
        private final Bytes file = new Bytes(FILE_ROOM);
        private final int[] fixPlaces = new int[FIX_ROOM];
        private final int[] fixNames = new int[FIX_ROOM];
        private int fixCount;
        private final int[] boundNames = new int[BOUND_ROOM];
        private final int[] boundSlots = new int[BOUND_ROOM];
        private int boundCount;
        private int replacedCount;
        // The answer of the latest settle or follow: two fields, so that a look makes no object.
        private Form seen;
        private Replacement seenWithin;

        Compiler(Shelf shelf) {
            this.shelf = shelf;
        }

        /** Tells what a form says; what it says is not looked at yet. */
        Unit unitOf(Form form) {
            Form head = form.part(0);
            if (head != null && head.kind == SYMBOL) {
                if (head.value == DEF) {
                    return definitionOf(form, FUNCTION);
                }
                if (head.value == MAC) {
                    return definitionOf(form, MACRO);
                }
            }
            return new Unit(MAIN, NO_NAME, new int[0], form);
        }

        private Unit definitionOf(Form form, int kind) {
            Form name = form.part(1);
            Form parameters = form.part(2);
            Form body = form.part(3);
            if (form.size != 4 || name == null || parameters == null || body == null) {
                throw new UnsupportedOperationException("a def or mac has three forms behind it");
            }
            if (!name.isSymbolOfLetters() || isWord(name.value)) {
                throw new UnsupportedOperationException("a def or mac needs a name");
            }
            if (!areParameters(parameters)) {
                throw new UnsupportedOperationException("a def or mac needs a list of parameters");
            }
            return new Unit(kind, name.value, symbolsOf(parameters), body);
        }

        private static boolean isWord(int symbol) {
            return symbol == DEF || symbol == MAC || symbol == IF || symbol == LET
                    || symbol == DO || symbol == SET || symbol == RUN;
        }

        private static boolean areParameters(Form list) {
            if (list.kind != LIST || list.size > PARAMETER_ROOM) {
                return false;
            }
            for (Form part = list.first; part != null; part = part.next) {
                if (!part.isSymbolOfLetters() || isRepeatedBehind(part)) {
                    return false;
                }
            }
            return true;
        }

        private static boolean isRepeatedBehind(Form symbol) {
            for (Form other = symbol.next; other != null; other = other.next) {
                if (other.kind == SYMBOL && other.value == symbol.value) {
                    return true;
                }
            }
            return false;
        }

        private static int[] symbolsOf(Form list) {
            int[] symbols = new int[Math.max(list.size, 0)];
            Form part = list.first;
            for (int k = 0; k < symbols.length && part != null; k++) {
                symbols[k] = part.value;
                part = part.next;
            }
            return symbols;
        }

        /** Gives a main or a function its code and its object. */
        void complete(Unit unit) {
            int parameters = unit.parameters.length;
            code.empty();
            fixCount = 0;
            boundCount = 0;
            replacedCount = 0;
            for (int k = 0; k < parameters; k++) {
                bind(unit.parameters[k], k);
            }
            translate(unit.body, null, parameters, 1);
            if (unit.kind == MAIN) {
                emit(HALT);
            } else {
                emit(RETURN);
                emit(parameters);
            }
            unit.code = code.copy();
            unit.fixPlaces = Arrays.copyOf(fixPlaces, fixCount);
            unit.fixNames = Arrays.copyOf(fixNames, fixCount);
            unit.file = fileOf(unit);
        }

        private Bytes fileOf(Unit unit) {
            file.empty();
            file.put(unit.kind);
            file.putName(unit.name);
            file.put(unit.parameters.length);
            file.putTwo(code.length);
            file.putAll(code);
            file.put(fixCount);
            for (int k = 0; k < fixCount; k++) {
                file.putTwo(fixPlaces[k]);
                file.putName(fixNames[k]);
            }
            return file.copy();
        }

        /** Puts the code that leaves the form's number in the slot. */
        private void translate(Form written, Replacement around, int slot, int depth) {
            if (depth > DEEPEST_BODY) {
                throw new UnsupportedOperationException("a body is too deep");
            }
            settle(written, around);
            Form form = seen;
            Replacement within = seenWithin;
            if (form.kind == NUMBER) {
                putNumber(form.value);
                return;
            }
            if (form.kind == SYMBOL) {
                emit(PUT_SLOT);
                emit(slotOf(form.value));
                return;
            }
            settle(form.first, within);
            int head = symbolSeen();
            switch (head) {
                case '+':
                case '-':
                case '*':
                case '<':
                case '=':
                    putPair(form, within, slot, depth, operationOf(head));
                    break;
                case IF:
                    putIf(form, within, slot, depth);
                    break;
                case LET:
                    putLet(form, within, slot, depth);
                    break;
                case DO:
                    putDo(form, within, slot, depth);
                    break;
                case SET:
                    putSet(form, within, slot, depth);
                    break;
                case RUN:
                    putRun(form, within, slot, depth);
                    break;
                case DEF:
                case MAC:
                    throw new UnsupportedOperationException("a def or mac is not the whole unit");
                default:
                    putCall(head, form, within, slot, depth);
                    break;
            }
        }

        private static int operationOf(int sign) {
            switch (sign) {
                case '+':
                    return ADD;
                case '-':
                    return SUBTRACT;
                case '*':
                    return MULTIPLY;
                case '<':
                    return LESS;
                default:
                    return EQUAL;
            }
        }

        private void putPair(Form form, Replacement within, int slot, int depth, int operation) {
            requireSize(form, 3);
            translate(form.part(1), within, slot, depth + 1);
            translate(form.part(2), within, slot + 1, depth + 1);
            emit(operation);
        }

        private void putIf(Form form, Replacement within, int slot, int depth) {
            requireSize(form, 4);
            translate(form.part(1), within, slot, depth + 1);
            int toOther = putJump(JUMP_IF_ZERO);
            translate(form.part(2), within, slot, depth + 1);
            int toEnd = putJump(JUMP);
            code.setTwo(toOther, code.length);
            translate(form.part(3), within, slot, depth + 1);
            code.setTwo(toEnd, code.length);
        }

        private void putLet(Form form, Replacement within, int slot, int depth) {
            requireSize(form, 4);
            settle(form.part(1), within);
            int name = symbolSeen();
            if (!isOfLetters(name)) {
                throw new UnsupportedOperationException("a let needs a symbol of letters");
            }
            translate(form.part(2), within, slot, depth + 1);
            bind(name, slot);
            translate(form.part(3), within, slot + 1, depth + 1);
            boundCount--;
            emit(TAKE_OUT_BELOW);
        }

        private void putDo(Form form, Replacement within, int slot, int depth) {
            if (form.size < 2) {
                throw new UnsupportedOperationException("a do needs a form");
            }
            for (Form part = form.part(1); part != null; part = part.next) {
                translate(part, within, slot, depth + 1);
                if (part.next != null) {
                    emit(DROP);
                }
            }
        }

        private void putSet(Form form, Replacement within, int slot, int depth) {
            requireSize(form, 3);
            settle(form.part(1), within);
            int target = slotOf(symbolSeen());
            translate(form.part(2), within, slot, depth + 1);
            emit(STORE);
            emit(target);
        }

        private void putRun(Form form, Replacement within, int slot, int depth) {
            requireSize(form, 3);
            int beginning = code.length;
            translate(form.part(1), within, slot, depth + 1);
            int toEnd = putJump(JUMP_IF_ZERO);
            translate(form.part(2), within, slot, depth + 1);
            emit(DROP);
            int toBeginning = putJump(JUMP);
            code.setTwo(toBeginning, beginning);
            code.setTwo(toEnd, code.length);
            putNumber(0);
        }

        private void putCall(int name, Form form, Replacement within, int slot, int depth) {
            int arguments = 0;
            for (Form part = form.part(1); part != null; part = part.next) {
                translate(part, within, slot + arguments, depth + 1);
                arguments++;
            }
            emit(CALL);
            addFix(code.length, name);
            emit(0);
            emit(0);
            emit(arguments);
        }

        private void putNumber(int number) {
            emit(PUT_NUMBER);
            emit(number >> 8);
            emit(number);
        }

        /** Answers where the place to go to has to be set. */
        private int putJump(int operation) {
            emit(operation);
            emit(0);
            emit(0);
            return code.length - 2;
        }

        private void emit(int value) {
            if (code.room() == 0) {
                throw new UnsupportedOperationException("the code has more than 200 bytes");
            }
            code.put(value);
        }

        private void addFix(int place, int name) {
            if (fixCount >= FIX_ROOM) {
                throw new UnsupportedOperationException("the code has too many calls");
            }
            fixPlaces[fixCount] = place;
            fixNames[fixCount] = name;
            fixCount++;
        }

        private void bind(int name, int slot) {
            if (boundCount >= BOUND_ROOM) {
                throw new UnsupportedOperationException("too many names are bound");
            }
            boundNames[boundCount] = name;
            boundSlots[boundCount] = slot;
            boundCount++;
        }

        private int slotOf(int name) {
            for (int k = boundCount - 1; k >= 0; k--) {
                if (boundNames[k] == name) {
                    return boundSlots[k];
                }
            }
            throw new UnsupportedOperationException("a symbol has no slot");
        }

        private static void requireSize(Form list, int size) {
            if (list.size != size) {
                throw new UnsupportedOperationException("a list has another number of forms");
            }
        }

        private int symbolSeen() {
            if (seen == null || seen.kind != SYMBOL) {
                throw new UnsupportedOperationException("a symbol is missing");
            }
            return seen.value;
        }

        /** Sees what stands in a form's place when macros and their parameters are replaced. */
        private void settle(Form written, Replacement around) {
            Form form = written;
            Replacement within = around;
            for (int k = 0; k <= MOST_REPLACED; k++) {
                follow(form, within);
                form = seen;
                within = seenWithin;
                if (form == null) {
                    throw new UnsupportedOperationException("a form is missing");
                }
                // Not settled: an outer list is looked at before the lists in it.
                follow(form.first, within);
                Unit macro = macroSeen();
                if (macro == null) {
                    seen = form;
                    seenWithin = within;
                    return;
                }
                within = replacementBy(macro, form, within);
                form = macro.body;
            }
            throw new UnsupportedOperationException("too many lists are replaced");
        }

        /** Sees what a macro's parameter is; all else is seen as it is. */
        private void follow(Form written, Replacement around) {
            seen = written;
            seenWithin = around;
            for (Replacement here = around; here != null; here = here.around) {
                Form argument = seen == null || seen.kind != SYMBOL
                        ? null : here.argumentFor(seen.value);
                if (argument == null) {
                    return;
                }
                // An argument is written where the macro is used, outside of its body.
                seen = argument;
                seenWithin = here.around;
            }
        }

        private Unit macroSeen() {
            return seen != null && seen.kind == SYMBOL ? shelf.latest(MACRO, seen.value) : null;
        }

        private Replacement replacementBy(Unit macro, Form list, Replacement within) {
            requireSize(list, macro.parameters.length + 1);
            if (replacedCount == MOST_REPLACED) {
                throw new UnsupportedOperationException("too many lists are replaced");
            }
            replacedCount++;
            return new Replacement(macro, list.part(1), within);
        }
    }

    /** Finds the units that an image takes, and puts them together. */
    private static final class Linker {
        private final Shelf shelf;
        private final Unit[] order = new Unit[UNIT_ROOM];
        private final int[] beginnings = new int[UNIT_ROOM];
        private int count;
        private int length;

        Linker(Shelf shelf) {
            this.shelf = shelf;
        }

        /** Answers why the units do not link, LINKED if they do. */
        int gather() {
            count = 0;
            length = 0;
            Unit main = shelf.latest(MAIN, NO_NAME);
            if (main == null) {
                return NO_MAIN;
            }
            add(main);
            for (int k = 0; k < UNIT_ROOM && k < count; k++) {
                int failure = gatherCalledBy(order[k]);
                if (failure != LINKED) {
                    return failure;
                }
            }
            return length > IMAGE_ROOM ? TOO_LONG : LINKED;
        }

        private int gatherCalledBy(Unit unit) {
            for (int k = 0; k < unit.fixNames.length && k < unit.fixPlaces.length; k++) {
                Unit called = shelf.latest(FUNCTION, unit.fixNames[k]);
                if (called == null) {
                    return NO_FUNCTION;
                }
                if (called.parameters.length != unit.code.at(unit.fixPlaces[k] + 2)) {
                    return OTHER_PARAMETERS;
                }
                if (beginningOf(called) == NONE) {
                    add(called);
                }
            }
            return LINKED;
        }

        private void add(Unit unit) {
            if (count < UNIT_ROOM) {
                order[count] = unit;
                beginnings[count] = length;
                count++;
                length += unit.code.length;
            }
        }

        private int beginningOf(Unit unit) {
            for (int k = 0; k < count; k++) {
                if (order[k] == unit) {
                    return beginnings[k];
                }
            }
            return NONE;
        }

        void fill(Bytes image) {
            image.empty();
            for (int k = 0; k < count; k++) {
                image.putAll(order[k].code);
                moveJumps(order[k].code, image, beginnings[k]);
                setCalls(order[k], image, beginnings[k]);
            }
        }

        private void moveJumps(Bytes code, Bytes image, int beginning) {
            for (int place = 0; place < code.length; place += lengthOf(code.at(place))) {
                int operation = code.at(place);
                if (operation == JUMP || operation == JUMP_IF_ZERO) {
                    image.setTwo(beginning + place + 1, beginning + code.twoAt(place + 1));
                }
            }
        }

        private static int lengthOf(int operation) {
            return operation >= 0 && operation < STEP_LENGTHS.length ? STEP_LENGTHS[operation] : 1;
        }

        private void setCalls(Unit unit, Bytes image, int beginning) {
            for (int k = 0; k < unit.fixNames.length && k < unit.fixPlaces.length; k++) {
                Unit called = shelf.latest(FUNCTION, unit.fixNames[k]);
                image.setTwo(beginning + unit.fixPlaces[k], beginningOf(called));
            }
        }
    }

    /** The stack machine; it is idle as long as its program is empty. */
    private static final class Machine {
        private final Bytes program = new Bytes(IMAGE_ROOM);
        private final int[] numbers = new int[STACK_ROOM];
        private int size;
        private final int[] callerFrames = new int[CALL_ROOM];
        private final int[] callerPlaces = new int[CALL_ROOM];
        private int calls;
        private int state = IDLE;
        private int place;
        private int frame;
        private int steps;

        void begin() {
            state = RUNNING;
            size = 0;
            calls = 0;
            place = 0;
            frame = 0;
            steps = 0;
        }

        /** Answers how many steps were made, a last one that found no room too. */
        int makeSteps(int most) {
            int made = 0;
            while (made < most && state == RUNNING) {
                makeStep();
                made++;
            }
            return made;
        }

        int numberAt(int k) {
            return k >= 0 && k < size && k < STACK_ROOM ? numbers[k] : 0;
        }

        private void makeStep() {
            int operation = program.at(place);
            if (hasNoRoomFor(operation)) {
                state = FULL;
                return;
            }
            steps++;
            switch (operation) {
                case PUT_NUMBER:
                    put((short) program.twoAt(place + 1));
                    place += 3;
                    break;
                case PUT_SLOT:
                    put(numberAt(frame + program.at(place + 1)));
                    place += 2;
                    break;
                case ADD:
                case SUBTRACT:
                case MULTIPLY:
                case LESS:
                case EQUAL:
                    joinTwo(operation);
                    place++;
                    break;
                case JUMP:
                    place = program.twoAt(place + 1);
                    break;
                case JUMP_IF_ZERO:
                    place = takeOff() == 0 ? program.twoAt(place + 1) : place + 3;
                    break;
                case TAKE_OUT_BELOW:
                    takeOutBelow();
                    place++;
                    break;
                case DROP:
                    takeOff();
                    place++;
                    break;
                case STORE:
                    store(frame + program.at(place + 1));
                    place += 2;
                    break;
                case CALL:
                    enter();
                    break;
                case RETURN:
                    leave();
                    break;
                default:
                    state = DONE;
                    break;
            }
        }

        private boolean hasNoRoomFor(int operation) {
            switch (operation) {
                case PUT_NUMBER:
                case PUT_SLOT:
                    return size >= STACK_ROOM;
                case CALL:
                    return calls >= CALL_ROOM;
                default:
                    return false;
            }
        }

        private void put(int number) {
            if (size >= 0 && size < STACK_ROOM) {
                numbers[size] = number;
                size++;
            }
        }

        private int takeOff() {
            int number = numberAt(size - 1);
            size = Math.max(size - 1, 0);
            return number;
        }

        private void joinTwo(int operation) {
            int upper = takeOff();
            int lower = takeOff();
            switch (operation) {
                case ADD:
                    put(lower + upper);
                    break;
                case SUBTRACT:
                    put(lower - upper);
                    break;
                case MULTIPLY:
                    put(lower * upper);
                    break;
                case LESS:
                    put(lower < upper ? 1 : 0);
                    break;
                default:
                    put(lower == upper ? 1 : 0);
                    break;
            }
        }

        private void takeOutBelow() {
            int upper = takeOff();
            takeOff();
            put(upper);
        }

        private void store(int k) {
            if (k >= 0 && k < size && k < STACK_ROOM) {
                numbers[k] = numberAt(size - 1);
            }
        }

        private void enter() {
            if (calls >= 0 && calls < CALL_ROOM) {
                callerFrames[calls] = frame;
                callerPlaces[calls] = place + 4;
                calls++;
                frame = Math.max(size - program.at(place + 3), 0);
                place = program.twoAt(place + 1);
            }
        }

        private void leave() {
            if (calls > 0 && calls <= CALL_ROOM) {
                int result = takeOff();
                size = frame;
                put(result);
                calls--;
                frame = callerFrames[calls];
                place = callerPlaces[calls];
            }
        }
    }
}
