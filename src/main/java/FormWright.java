import java.util.Arrays;

/**
 * A form builder with its compiler of formulas and its review board. What each call promises stands in
 * the document of the project; a call that throws has tested all that it must before it changes anything.
 */
public final class FormWright {
    public static final int NONE = -1;
    public static final int ABSENT = 0, NUMBER = 1, FLAG = 2, CHOICE = 3;
    public static final int OPEN = 0, COUNTED = 1, REFUSED = 2, HELD = 3, STRUCK = 4;

    private static final int FIELDS = 6;
    // The formulas below FIRST_CHECK compute the field of their own number.
    private static final int FIRST_CHECK = 6;
    private static final int FORMULAS = 10;
    private static final int VERSION_LIMIT = 10;
    private static final int ANSWER_LIMIT = 20;
    private static final int TEXT_LIMIT = 40;

    private final Source source = new Source();
    private final Form draft = new Form();
    private final Form[] published = new Form[VERSION_LIMIT];
    private int publishedCount = 0;
    private final Answer[] begun = new Answer[ANSWER_LIMIT];
    private int begunCount = 0;

    public FormWright() {
    }

    // ---- the text

    public int type(char character) throws IllegalStateException {
        if (source.size() >= TEXT_LIMIT) {
            throw new IllegalStateException("the text is full");
        }
        source.append(character);
        return source.size();
    }

    public int clear() {
        int had = source.size();
        source.empty();
        return had;
    }

    public int error() {
        return source.firstError();
    }

    public int typeOfText() throws IllegalStateException {
        if (source.firstError() != NONE) {
            throw new IllegalStateException("the text is no formula");
        }
        return draft.typeOfFormula(source.made());
    }

    // ---- the draft

    public int setType(int field, int type) throws IndexOutOfBoundsException, IllegalArgumentException {
        requireField(field);
        if (type < ABSENT || type > CHOICE) {
            throw new IllegalArgumentException("no such type");
        }
        draft.giveType(field, type);
        return draft.countBroken();
    }

    public int setFormula(int formula)
            throws IndexOutOfBoundsException, IllegalArgumentException, IllegalStateException {
        requireFormula(formula);
        if (source.firstError() != NONE) {
            throw new IllegalArgumentException("the text is no formula");
        }
        Formula made = source.made();
        if (draft.wouldBreak(formula, made)) {
            throw new IllegalStateException("the formula would be broken");
        }
        if (draft.wouldCircle(formula, made)) {
            throw new IllegalStateException("a field would hang on itself");
        }
        draft.giveFormula(formula, made);
        return draft.countFormulas();
    }

    public boolean dropFormula(int formula) throws IndexOutOfBoundsException {
        requireFormula(formula);
        boolean had = draft.formulaAt(formula) != null;
        draft.giveFormula(formula, null);
        return had;
    }

    public boolean isBroken(int formula) throws IndexOutOfBoundsException {
        requireFormula(formula);
        return draft.hasBroken(formula);
    }

    public int publish() throws IllegalStateException {
        if (publishedCount >= VERSION_LIMIT) {
            throw new IllegalStateException("there are 10 versions");
        }
        Formula[] dropped = draft.takeBroken();
        Form version = draft.frozen();
        published[publishedCount] = version;
        publishedCount++;
        for (int number = 0; number < begunCount && number < ANSWER_LIMIT; number++) {
            Answer answer = begun[number];
            if (answer != null) {
                answer.meetVersion(version, dropped);
            }
        }
        return publishedCount - 1;
    }

    // ---- versions

    public int versions() {
        return publishedCount;
    }

    public int typeIn(int version, int field) throws IndexOutOfBoundsException {
        Form form = requireVersion(version);
        requireField(field);
        return form.typeOfField(field);
    }

    public int order(int version, int place) throws IndexOutOfBoundsException {
        Form form = requireVersion(version);
        requirePlace(place);
        return form.toldAt(place);
    }

    public int plain(int version, int formula, int place) throws IndexOutOfBoundsException {
        Form form = requireVersion(version);
        requireFormula(formula);
        requirePlace(place);
        Formula told = form.formulaAt(formula);
        return told == null ? NONE : told.plainSign(place);
    }

    // ---- answers

    public int begin() throws IllegalStateException {
        if (publishedCount == 0 || begunCount >= ANSWER_LIMIT) {
            throw new IllegalStateException("no version, or 20 answers");
        }
        int latest = publishedCount - 1;
        begun[begunCount] = new Answer(latest, requireVersion(latest));
        begunCount++;
        return begunCount - 1;
    }

    public int put(int answer, int field, int value)
            throws IndexOutOfBoundsException, IllegalStateException, IllegalArgumentException {
        Answer filled = requireAnswer(answer);
        requireField(field);
        if (filled.stateNow() != OPEN || !filled.isPutField(field)) {
            throw new IllegalStateException("not OPEN, or no field to put a value into");
        }
        if (!filled.accepts(field, value)) {
            throw new IllegalArgumentException("the value is out of range");
        }
        filled.write(field, value);
        return filled.countMissing();
    }

    public int handIn(int answer) throws IndexOutOfBoundsException, IllegalStateException {
        Answer filled = requireAnswer(answer);
        if (filled.stateNow() != OPEN || filled.countMissing() > 0) {
            throw new IllegalStateException("not OPEN, or a value is missing");
        }
        filled.judge();
        return filled.stateNow();
    }

    public int answers() {
        return begunCount;
    }

    public int stateOf(int answer) throws IndexOutOfBoundsException {
        return requireAnswer(answer).stateNow();
    }

    public int versionOf(int answer) throws IndexOutOfBoundsException {
        return requireAnswer(answer).versionNumber();
    }

    public int value(int answer, int field) throws IndexOutOfBoundsException, IllegalStateException {
        Answer filled = requireAnswer(answer);
        requireField(field);
        if (!filled.hasValue(field)) {
            throw new IllegalStateException("the field has no value");
        }
        return filled.valueAt(field);
    }

    public int refusal(int answer) throws IndexOutOfBoundsException, IllegalStateException {
        Answer judged = requireAnswer(answer);
        if (judged.stateNow() == OPEN) {
            throw new IllegalStateException("the answer is OPEN");
        }
        return judged.refusingCheck();
    }

    public int counted() {
        int count = 0;
        for (int number = 0; number < begunCount && number < ANSWER_LIMIT; number++) {
            Answer answer = begun[number];
            if (answer != null && answer.stateNow() == COUNTED) {
                count++;
            }
        }
        return count;
    }

    // ---- reviews

    public boolean doubt(int answer, int field) throws IndexOutOfBoundsException, IllegalStateException {
        Answer reviewed = requireAnswer(answer);
        requireField(field);
        if (!reviewed.isReviewable() || !reviewed.hasField(field)) {
            throw new IllegalStateException("neither COUNTED nor HELD, or the field is ABSENT");
        }
        boolean was = reviewed.isDoubted(field);
        reviewed.addDoubts(1 << field);
        return was;
    }

    public int settle(int answer, int field, boolean isFine) throws IndexOutOfBoundsException, IllegalStateException {
        Answer reviewed = requireAnswer(answer);
        requireField(field);
        if (reviewed.stateNow() != HELD || !reviewed.isDoubted(field)) {
            throw new IllegalStateException("not HELD, or not doubted in the field");
        }
        if (isFine) {
            reviewed.release(field);
        } else {
            reviewed.strike();
        }
        return reviewed.stateNow();
    }

    public int amend(int answer, int field, int value)
            throws IndexOutOfBoundsException, IllegalStateException, IllegalArgumentException {
        Answer reviewed = requireAnswer(answer);
        requireField(field);
        if (reviewed.stateNow() != HELD || !reviewed.isPutField(field)) {
            throw new IllegalStateException("not HELD, or no field to amend");
        }
        if (!reviewed.accepts(field, value)) {
            throw new IllegalArgumentException("the value is out of range");
        }
        reviewed.write(field, value);
        reviewed.release(field);
        reviewed.judge();
        return reviewed.stateNow();
    }

    public int doubts(int answer) throws IndexOutOfBoundsException {
        return requireAnswer(answer).doubtedFields();
    }

    // ---- what the calls of the face require

    private static void requireField(int field) throws IndexOutOfBoundsException {
        if (field < 0 || field >= FIELDS) {
            throw new IndexOutOfBoundsException("no such field");
        }
    }

    private static void requireFormula(int formula) throws IndexOutOfBoundsException {
        if (formula < 0 || formula >= FORMULAS) {
            throw new IndexOutOfBoundsException("no such formula");
        }
    }

    private static void requirePlace(int place) throws IndexOutOfBoundsException {
        if (place < 0) {
            throw new IndexOutOfBoundsException("no such place");
        }
    }

    private Form requireVersion(int version) throws IndexOutOfBoundsException {
        Form form = version >= 0 && version < publishedCount && version < VERSION_LIMIT ? published[version] : null;
        if (form == null) {
            throw new IndexOutOfBoundsException("no such version");
        }
        return form;
    }

    private Answer requireAnswer(int answer) throws IndexOutOfBoundsException {
        Answer found = answer >= 0 && answer < begunCount && answer < ANSWER_LIMIT ? begun[answer] : null;
        if (found == null) {
            throw new IndexOutOfBoundsException("no such answer");
        }
        return found;
    }

    private static boolean isIn(int fields, int field) {
        return (fields >> field & 1) == 1;
    }

    /** What a formula is read for: the parts of it stand for types, or for values. */
    private abstract static class Reading {
        abstract int ofNumber(int number);

        abstract int ofField(int field);

        abstract int ofNot(int part);

        abstract int ofSign(int sign, int left, int right);
    }

    /** The types of the six fields, and the types that formulas have with them; NONE where there is none. */
    private static final class Types extends Reading {
        private final int[] row;

        Types(int[] row) {
            this.row = row;
        }

        Types copied() {
            return new Types(row.clone());
        }

        int at(int field) {
            return field >= 0 && field < row.length ? row[field] : ABSENT;
        }

        void give(int field, int type) {
            if (field >= 0 && field < row.length) {
                row[field] = type;
            }
        }

        int ofNumber(int number) {
            return NUMBER;
        }

        int ofField(int field) {
            int type = at(field);
            return type == ABSENT ? NONE : type;
        }

        int ofNot(int part) {
            return part == FLAG ? FLAG : NONE;
        }

        int ofSign(int sign, int left, int right) {
            switch (sign) {
                case '+':
                case '-':
                case '*':
                    return left == NUMBER && right == NUMBER ? NUMBER : NONE;
                case '<':
                case '>':
                    return left == NUMBER && right == NUMBER ? FLAG : NONE;
                case '=':
                    return areAlike(left, right) ? FLAG : NONE;
                default:
                    return left == FLAG && right == FLAG ? FLAG : NONE;
            }
        }

        private static boolean areAlike(int left, int right) {
            if (left == right) {
                return left != NONE;
            }
            return left == NUMBER && right == CHOICE || left == CHOICE && right == NUMBER;
        }
    }

    /** The values of the six fields of an answer, as far as it has them, and what formulas give with them. */
    private static final class Values extends Reading {
        private static final int BOUND = 10000;

        private final int[] row = new int[FIELDS];
        private int known = 0;

        boolean has(int field) {
            return isIn(known, field);
        }

        int at(int field) {
            return field >= 0 && field < row.length ? row[field] : 0;
        }

        void give(int field, int value) {
            if (field >= 0 && field < row.length) {
                row[field] = value;
                known |= 1 << field;
            }
        }

        int ofNumber(int number) {
            return number;
        }

        int ofField(int field) {
            return at(field);
        }

        int ofNot(int part) {
            return part == 0 ? 1 : 0;
        }

        int ofSign(int sign, int left, int right) {
            switch (sign) {
                case '+':
                    return (left + right) % BOUND;
                case '-':
                    return (left - right) % BOUND;
                case '*':
                    return left * right % BOUND;
                case '<':
                    return left < right ? 1 : 0;
                case '>':
                    return left > right ? 1 : 0;
                case '=':
                    return left == right ? 1 : 0;
                case '&':
                    return left & right;
                default:
                    return left | right;
            }
        }
    }

    /**
     * A compiled formula: its steps, each behind the steps that it takes from (a number as itself, a letter
     * as LETTER and its field, a sign as its character below zero), its plain text, and its letters as a set.
     */
    private static final class Formula {
        private static final int LETTER = 1000;

        private final int[] steps;
        private final int[] stack;
        private final int[] plainSigns;
        private final int letters;

        Formula(int[] steps, int[] plainSigns, int letters) {
            this.steps = steps;
            this.stack = new int[steps.length];
            this.plainSigns = plainSigns;
            this.letters = letters;
        }

        int letterSet() {
            return letters;
        }

        int plainSign(int place) {
            return place >= 0 && place < plainSigns.length ? plainSigns[place] : NONE;
        }

        boolean looksLike(Formula other) {
            if (other.plainSigns.length != plainSigns.length) {
                return false;
            }
            for (int place = 0; place < plainSigns.length; place++) {
                if (other.plainSign(place) != plainSigns[place]) {
                    return false;
                }
            }
            return true;
        }

        int readFor(Reading reading) {
            int size = 0;
            for (int step : steps) {
                if (step >= 0 && size < stack.length) {
                    stack[size] = step < LETTER ? reading.ofNumber(step) : reading.ofField(step - LETTER);
                    size++;
                } else if (step == -'!' && size > 0) {
                    stack[size - 1] = reading.ofNot(stack[size - 1]);
                } else if (size > 1) {
                    size--;
                    stack[size - 1] = reading.ofSign(-step, stack[size - 1], stack[size]);
                }
            }
            return size > 0 ? stack[0] : NONE;
        }
    }

    /** The text, and the compiler that reads it: it makes the steps and the plain text of the formula on the way. */
    private static final class Source {
        private static final int OPEN_SIGNS = 6;
        private static final int DIGITS = 3;
        // Each of at most 20 signs between two parts brings two brackets with it.
        private static final int PLAIN_LIMIT = 80;
        // The levels at which signs bind, the loosest first; a sign of none of them ends all parts.
        private static final int NO_LEVEL = -1, OR = 0, AND = 1, RELATION = 2, SUM = 3, PRODUCT = 4;
        private static final char END = 0;

        private final char[] text = new char[TEXT_LIMIT];
        private int length = 0;
        private int place = 0;
        private final int[] steps = new int[TEXT_LIMIT];
        private int stepCount = 0;
        private final int[] plainSigns = new int[PLAIN_LIMIT];
        private int plainLength = 0;
        private int letters = 0;

        int size() {
            return length;
        }

        void append(char character) {
            if (length < text.length) {
                text[length] = character;
                length++;
            }
        }

        void empty() {
            length = 0;
        }

        /** No part reads on behind a sign that cannot stand there: where the reading ends is the first error. */
        int firstError() {
            place = 0;
            stepCount = 0;
            plainLength = 0;
            letters = 0;
            return readParts(OR, 0) && place == length ? NONE : place;
        }

        /** Makes the formula of the text that was read without an error. */
        Formula made() {
            return new Formula(Arrays.copyOf(steps, stepCount), Arrays.copyOf(plainSigns, plainLength), letters);
        }

        private boolean readParts(int level, int open) {
            if (level > PRODUCT) {
                return readFactor(open);
            }
            int start = plainLength;
            if (!readParts(level + 1, open)) {
                return false;
            }
            int most = level == RELATION ? 1 : TEXT_LIMIT;
            for (int taken = 0; taken < most && levelOf(next()) == level; taken++) {
                char sign = next();
                place++;
                openPlain(start);
                writePlain(sign);
                if (!readParts(level + 1, open)) {
                    return false;
                }
                writePlain(')');
                addStep(-sign);
            }
            return true;
        }

        private boolean readFactor(int open) {
            char sign = next();
            if (isDigit(sign)) {
                readNumber();
                return true;
            }
            if (sign >= 'a' && sign <= 'f') {
                readLetter(sign);
                return true;
            }
            if (sign != '(' && sign != '!' || open >= OPEN_SIGNS) {
                return false;
            }
            place++;
            return sign == '!' ? readNot(open + 1) : readBracket(open + 1);
        }

        private boolean readNot(int open) {
            writePlain('!');
            if (!readFactor(open)) {
                return false;
            }
            addStep(-'!');
            return true;
        }

        private boolean readBracket(int open) {
            if (!readParts(OR, open) || next() != ')') {
                return false;
            }
            place++;
            return true;
        }

        private void readNumber() {
            int number = 0;
            for (int digits = 0; digits < DIGITS && isDigit(next()) && (digits == 0 || number > 0); digits++) {
                number = number * 10 + (next() - '0');
                writePlain(next());
                place++;
            }
            addStep(number);
        }

        private void readLetter(char letter) {
            int field = letter - 'a';
            letters |= 1 << field;
            writePlain(letter);
            addStep(Formula.LETTER + field);
            place++;
        }

        private char next() {
            return place >= 0 && place < length && place < text.length ? text[place] : END;
        }

        private static boolean isDigit(char sign) {
            return sign >= '0' && sign <= '9';
        }

        private static int levelOf(int sign) {
            switch (sign) {
                case '|':
                    return OR;
                case '&':
                    return AND;
                case '<':
                case '=':
                case '>':
                    return RELATION;
                case '+':
                case '-':
                    return SUM;
                case '*':
                    return PRODUCT;
                default:
                    return NO_LEVEL;
            }
        }

        private void addStep(int step) {
            if (stepCount < steps.length) {
                steps[stepCount] = step;
                stepCount++;
            }
        }

        private void writePlain(char sign) {
            if (plainLength < plainSigns.length) {
                plainSigns[plainLength] = sign;
                plainLength++;
            }
        }

        /** The left side is written already when the sign behind it is met: its bracket is put ahead of it. */
        private void openPlain(int start) {
            if (start < 0 || plainLength >= plainSigns.length) {
                return;
            }
            for (int at = plainLength; at > start; at--) {
                plainSigns[at] = plainSigns[at - 1];
            }
            plainSigns[start] = '(';
            plainLength++;
        }
    }

    /** Types and formulas: the draft, or a version, which is frozen and has its order. */
    private static final class Form {
        private final Types types;
        private final Formula[] formulas = new Formula[FORMULAS];
        private final int[] told = new int[FIELDS];

        Form() {
            this.types = new Types(new int[FIELDS]);
        }

        private Form(Types types) {
            this.types = types;
        }

        int typeOfField(int field) {
            return types.at(field);
        }

        void giveType(int field, int type) {
            types.give(field, type);
        }

        Formula formulaAt(int number) {
            return number >= 0 && number < formulas.length ? formulas[number] : null;
        }

        void giveFormula(int number, Formula formula) {
            if (number >= 0 && number < formulas.length) {
                formulas[number] = formula;
            }
        }

        boolean isComputed(int field) {
            return field < FIRST_CHECK && formulaAt(field) != null;
        }

        int typeOfFormula(Formula formula) {
            return formula.readFor(types);
        }

        int countFormulas() {
            int count = 0;
            for (Formula formula : formulas) {
                if (formula != null) {
                    count++;
                }
            }
            return count;
        }

        boolean wouldBreak(int number, Formula formula) {
            int due = number < FIRST_CHECK ? types.at(number) : FLAG;
            return typeOfFormula(formula) != due;
        }

        boolean hasBroken(int number) {
            Formula formula = formulaAt(number);
            return formula != null && wouldBreak(number, formula);
        }

        int countBroken() {
            int count = 0;
            for (int number = 0; number < FORMULAS; number++) {
                if (hasBroken(number)) {
                    count++;
                }
            }
            return count;
        }

        /** No field hangs on itself in the form as it is, so with one more formula only its own field can. */
        boolean wouldCircle(int number, Formula formula) {
            if (number >= FIRST_CHECK) {
                return false;
            }
            int reached = formula.letterSet();
            for (int round = 0; round < FIELDS; round++) {
                for (int field = 0; field < FIELDS; field++) {
                    if (field != number && isIn(reached, field)) {
                        reached |= lettersAt(field);
                    }
                }
            }
            return isIn(reached, number);
        }

        private int lettersAt(int number) {
            Formula formula = formulaAt(number);
            return formula == null ? 0 : formula.letterSet();
        }

        /** Takes the broken formulas away, and tells them by their numbers. */
        Formula[] takeBroken() {
            Formula[] taken = new Formula[FORMULAS];
            for (int number = 0; number < FORMULAS; number++) {
                if (hasBroken(number)) {
                    taken[number] = formulaAt(number);
                    giveFormula(number, null);
                }
            }
            return taken;
        }

        Form frozen() {
            Form copy = new Form(types.copied());
            for (int number = 0; number < FORMULAS; number++) {
                copy.giveFormula(number, formulaAt(number));
            }
            copy.tellOrder();
            return copy;
        }

        private void tellOrder() {
            int waiting = 0;
            for (int field = 0; field < FIELDS; field++) {
                waiting |= isComputed(field) ? 1 << field : 0;
            }
            for (int place = 0; place < FIELDS; place++) {
                int field = lowestFree(waiting);
                told[place] = field;
                waiting &= field == NONE ? waiting : ~(1 << field);
            }
        }

        private int lowestFree(int waiting) {
            for (int field = 0; field < FIELDS; field++) {
                if (isIn(waiting, field) && (lettersAt(field) & waiting) == 0) {
                    return field;
                }
            }
            return NONE;
        }

        int toldAt(int place) {
            return place >= 0 && place < told.length ? told[place] : NONE;
        }

        /** The fields that are doubted in an answer of this version when a later one is published. */
        int fieldsThatFall(Form later, Formula[] dropped) {
            int fields = 0;
            for (int field = 0; field < FIELDS; field++) {
                int type = typeOfField(field);
                if (type != ABSENT && type != later.typeOfField(field)) {
                    fields |= 1 << field;
                }
            }
            for (int number = 0; number < FORMULAS && number < dropped.length; number++) {
                Formula own = formulaAt(number);
                Formula gone = dropped[number];
                if (own != null && gone != null && own.looksLike(gone)) {
                    fields |= own.letterSet();
                }
            }
            return fields;
        }
    }

    /** An answer with the version that it fills, and the review of it. */
    private static final class Answer {
        private final int number;
        private final Form version;
        private final Values values = new Values();
        private int state = OPEN;
        private int doubted = 0;

        Answer(int number, Form version) {
            this.number = number;
            this.version = version;
        }

        int versionNumber() {
            return number;
        }

        int stateNow() {
            return state;
        }

        int doubtedFields() {
            return doubted;
        }

        boolean isDoubted(int field) {
            return isIn(doubted, field);
        }

        boolean isReviewable() {
            return state == COUNTED || state == HELD;
        }

        boolean hasField(int field) {
            return version.typeOfField(field) != ABSENT;
        }

        boolean isPutField(int field) {
            return hasField(field) && !version.isComputed(field);
        }

        boolean accepts(int field, int value) {
            switch (version.typeOfField(field)) {
                case NUMBER:
                    return value >= -999 && value <= 999;
                case FLAG:
                    return value == 0 || value == 1;
                case CHOICE:
                    return value >= 0 && value <= 9;
                default:
                    return false;
            }
        }

        boolean hasValue(int field) {
            return values.has(field);
        }

        int valueAt(int field) {
            return values.at(field);
        }

        void write(int field, int value) {
            values.give(field, value);
        }

        int countMissing() {
            int count = 0;
            for (int field = 0; field < FIELDS; field++) {
                if (isPutField(field) && !hasValue(field)) {
                    count++;
                }
            }
            return count;
        }

        /** Gives the computed fields their values, and the answer the state that goes with them. */
        void judge() {
            for (int place = 0; place < FIELDS; place++) {
                int field = version.toldAt(place);
                Formula formula = version.formulaAt(field);
                if (formula != null) {
                    values.give(field, formula.readFor(values));
                }
            }
            state = refusingCheck() == NONE ? stateByDoubts() : REFUSED;
        }

        int refusingCheck() {
            for (int check = FIRST_CHECK; check < FORMULAS; check++) {
                Formula formula = version.formulaAt(check);
                if (formula != null && formula.readFor(values) == 0) {
                    return check;
                }
            }
            return NONE;
        }

        private int stateByDoubts() {
            return doubted == 0 ? COUNTED : HELD;
        }

        void addDoubts(int fields) {
            doubted |= fields;
            state = stateByDoubts();
        }

        void release(int field) {
            doubted &= ~(1 << field);
            state = stateByDoubts();
        }

        void strike() {
            state = STRUCK;
        }

        void meetVersion(Form later, Formula[] dropped) {
            if (isReviewable()) {
                addDoubts(version.fieldsThatFall(later, dropped));
            }
        }
    }
}
