import java.util.NoSuchElementException;

/**
 * A garth of functions as such. A term is held as the row of its signs in prefix order, so that nearly all that is
 * asked of it is one walk along a row; a bound letter is held by how many abstractions stand between it and its own.
 */
public final class Boehmgarth {
    private static final int MOST_TERMS = 40;
    private static final int MOST_TYPED = 60;
    private static final int MOST_SIZE = 200;
    private static final int MOST_NESTED = 25;
    private static final int MOST_NUMBER = 20;
    private static final int MOST_STEPS = 60;
    private static final int MOST_HEAD_STEPS = 20;
    private static final int MOST_DEPTH = 4;
    private static final int MOST_BETAS = 100;
    private static final int MOST_COMBINED = 400;
    private static final int MOST_TYPE_SIGNS = 400;
    private static final int LETTERS = 26;

    /** What a row answers where it has no sign, and what is told by a place that is none. */
    private static final int NONE = 0;
    private static final int NOWHERE = -1;

    /** An application that is singled out to be contracted, and one whose residuals are followed. */
    private static final int MARKED = -1;
    private static final int TRACED = -2;

    /** A bound letter is this plus how many abstractions stand between; it stands above all other signs. */
    private static final int BOUND = 256;

    private final Row typed = new Row(MOST_TYPED);
    private final Row[] rows = new Row[MOST_TERMS];
    private final Row left = new Row(MOST_SIZE);
    private final Row right = new Row(MOST_SIZE);
    private final Reader reader = new Reader();
    private final Maker maker = new Maker();
    private final Steps steps = new Steps();
    private final Eta etas = new Eta();
    private final Trees trees = new Trees();
    private final Types types = new Types();
    private final Combiner combiner = new Combiner();
    private final Machine machine = new Machine();
    private int count;

    public Boehmgarth() {
        for (int i = 0; i < rows.length; i++) {
            rows[i] = new Row(MOST_SIZE);
        }
    }

    public int type(char sign) throws IllegalArgumentException, IllegalStateException {
        if (!isLetter(sign) && sign != '^' && sign != '.' && sign != '(' && sign != ')') {
            throw new IllegalArgumentException("no such sign");
        }
        if (!typed.add(sign)) {
            throw new IllegalStateException("the buffer is full");
        }
        return typed.length();
    }

    public int clear() {
        int were = typed.length();
        typed.empty();
        return were;
    }

    public int fault() {
        return reader.faultOf(typed);
    }

    public int term() throws UnsupportedOperationException, IllegalStateException {
        if (reader.faultOf(typed) != NOWHERE || !reader.readInto(typed, left)) {
            throw new UnsupportedOperationException("the buffer is no term, or too great");
        }
        int made = added(left);
        typed.empty();
        return made;
    }

    public int number(int number) throws IllegalArgumentException, IllegalStateException {
        if (number < 0 || number > MOST_NUMBER) {
            throw new IllegalArgumentException("the number is out of range");
        }
        maker.makeNumber(number, left);
        return added(left);
    }

    public int apply(int first, int second)
            throws IndexOutOfBoundsException, UnsupportedOperationException, IllegalStateException {
        Row one = known(first);
        Row other = known(second);
        return addedIf(maker.makeApplication(one, other, left));
    }

    public int abstraction(int term, char letter) throws IndexOutOfBoundsException, IllegalArgumentException,
            UnsupportedOperationException, IllegalStateException {
        Row row = known(term);
        checkLetter(letter);
        return addedIf(maker.makeAbstraction(row, letter, left));
    }

    public int put(int term, char letter, int other) throws IndexOutOfBoundsException, IllegalArgumentException,
            UnsupportedOperationException, IllegalStateException {
        Row row = known(term);
        Row part = known(other);
        checkLetter(letter);
        return addedIf(maker.makeFilled(row, letter, part, left));
    }

    public int copy(int from, int to) throws IndexOutOfBoundsException {
        Row source = known(from);
        Row target = known(to);
        if (from != to) {
            target.take(source);
        }
        return target.length();
    }

    public int size(int term) throws IndexOutOfBoundsException {
        return known(term).length();
    }

    public int places(int term, char letter) throws IndexOutOfBoundsException, IllegalArgumentException {
        Row row = known(term);
        checkLetter(letter);
        return row.placesOf(letter);
    }

    public boolean isClosed(int term) throws IndexOutOfBoundsException {
        Row row = known(term);
        for (int i = 0; i < row.length(); i++) {
            if (isLetter(row.at(i))) {
                return false;
            }
        }
        return true;
    }

    public boolean areSame(int first, int second) throws IndexOutOfBoundsException {
        Row one = known(first);
        Row other = known(second);
        return one.unlikeTo(other) == NOWHERE;
    }

    public char signAt(int term, int index) throws IndexOutOfBoundsException, NoSuchElementException {
        return told(known(term), index);
    }

    public int numberOf(int term) throws IndexOutOfBoundsException, NoSuchElementException {
        int found = maker.numberIn(known(term));
        if (found < 0) {
            throw new NoSuchElementException("the term is no number");
        }
        return found;
    }

    public int redexes(int term) throws IndexOutOfBoundsException {
        return steps.redexesOf(known(term));
    }

    public int redexAt(int term, int redex) throws IndexOutOfBoundsException, NoSuchElementException {
        return redexPlace(known(term), redex);
    }

    public int contract(int term, int redex)
            throws IndexOutOfBoundsException, NoSuchElementException, UnsupportedOperationException {
        Row row = known(term);
        int place = redexPlace(row, redex);
        if (!steps.contractTracing(row, place, place, row)) {
            throw new UnsupportedOperationException("the term is too great then");
        }
        return row.length();
    }

    public int residuals(int term, int redex, int other)
            throws IndexOutOfBoundsException, NoSuchElementException, UnsupportedOperationException {
        Row row = known(term);
        int traced = redexPlace(row, redex);
        int contracted = redexPlace(row, other);
        if (!steps.contractTracing(row, contracted, traced, left)) {
            throw new UnsupportedOperationException("the term is too great then");
        }
        return left.placesOf(TRACED);
    }

    public boolean joins(int term, int one, int other)
            throws IndexOutOfBoundsException, NoSuchElementException, UnsupportedOperationException {
        Row row = known(term);
        int here = redexPlace(row, one);
        int there = redexPlace(row, other);
        if (!steps.contractBoth(row, here, there, left) || !steps.contractBoth(row, there, here, right)) {
            throw new UnsupportedOperationException("a term is too great on the way");
        }
        return left.unlikeTo(right) == NOWHERE;
    }

    public boolean step(int term, char strategy)
            throws IndexOutOfBoundsException, IllegalArgumentException, UnsupportedOperationException {
        Row row = known(term);
        checkStrategy(strategy);
        if (steps.placeBy(row, strategy) == NOWHERE) {
            return false;
        }
        if (!steps.stepOn(row, strategy)) {
            throw new UnsupportedOperationException("the term is too great then");
        }
        return true;
    }

    public boolean isNormal(int term, char strategy) throws IndexOutOfBoundsException, IllegalArgumentException {
        Row row = known(term);
        checkStrategy(strategy);
        return steps.placeBy(row, strategy) == NOWHERE;
    }

    public int reduce(int term, char strategy, int most)
            throws IndexOutOfBoundsException, IllegalArgumentException, UnsupportedOperationException {
        Row row = known(term);
        checkStrategy(strategy);
        if (most < 1 || most > MOST_STEPS) {
            throw new IllegalArgumentException("the number of steps is out of range");
        }
        left.take(row);
        int made = steps.leadOn(left, strategy, most);
        if (made < 0) {
            throw new UnsupportedOperationException("not normal behind these steps, or too great");
        }
        row.take(left);
        return made;
    }

    public char best(int term) throws IndexOutOfBoundsException, NoSuchElementException {
        Row row = known(term);
        char found = bestFor(row);
        if (found == NONE) {
            throw new NoSuchElementException("no strategy comes to an end");
        }
        return found;
    }

    public int eta(int term) throws IndexOutOfBoundsException {
        return etas.shorten(known(term));
    }

    public boolean isSolved(int term) throws IndexOutOfBoundsException {
        left.take(known(term));
        return steps.leadOn(left, 'h', MOST_HEAD_STEPS) >= 0;
    }

    public int treeSigns(int term, int depth)
            throws IndexOutOfBoundsException, IllegalArgumentException, UnsupportedOperationException {
        return treeOf(term, depth).length();
    }

    public char treeAt(int term, int depth, int index) throws IndexOutOfBoundsException, IllegalArgumentException,
            UnsupportedOperationException, NoSuchElementException {
        return told(treeOf(term, depth), index);
    }

    public int unlikeAt(int first, int second, int depth) throws IndexOutOfBoundsException, IllegalArgumentException,
            UnsupportedOperationException, NoSuchElementException {
        Row one = known(first);
        Row other = known(second);
        checkDepth(depth);
        int place = treesUnlikeAt(one, other, depth);
        if (place == NOWHERE) {
            throw new NoSuchElementException("the trees are alike");
        }
        return place;
    }

    public int separated(int first, int second)
            throws IndexOutOfBoundsException, UnsupportedOperationException, NoSuchElementException {
        Row one = known(first);
        Row other = known(second);
        for (int depth = 0; depth <= MOST_DEPTH; depth++) {
            if (treesUnlikeAt(one, other, depth) != NOWHERE) {
                return depth;
            }
        }
        throw new NoSuchElementException("the trees are alike");
    }

    public boolean hasType(int term) throws IndexOutOfBoundsException {
        return types.find(known(term));
    }

    public char typeAt(int term, int index)
            throws IndexOutOfBoundsException, UnsupportedOperationException, NoSuchElementException {
        return told(typeOf(term), index);
    }

    public int arguments(int term) throws IndexOutOfBoundsException, UnsupportedOperationException {
        return typeOf(term).argumentsTaken();
    }

    public int combinators(int term) throws IndexOutOfBoundsException, UnsupportedOperationException {
        return combinatorsOf(term).length();
    }

    public char combinatorAt(int term, int index)
            throws IndexOutOfBoundsException, UnsupportedOperationException, NoSuchElementException {
        return told(combinatorsOf(term), index);
    }

    public int betas(int term, boolean isByNeed) throws IndexOutOfBoundsException, UnsupportedOperationException {
        runMachine(known(term), isByNeed);
        return machine.betasMade();
    }

    public int headArguments(int term) throws IndexOutOfBoundsException, UnsupportedOperationException {
        runMachine(known(term), false);
        return machine.argumentsLeft();
    }

    public long checksum() {
        long sum = 0;
        for (int term = 0; term < count && term < rows.length; term++) {
            Row row = rows[term];
            for (int i = 0; i < row.length(); i++) {
                sum = 31 * sum + row.toldAt(i);
            }
            sum = 31 * sum;
        }
        return sum;
    }

    public int terms() {
        return count;
    }

    public float normalShare() throws ArithmeticException {
        if (count == 0) {
            throw new ArithmeticException("there are no terms");
        }
        int normal = 0;
        for (int term = 0; term < count && term < rows.length; term++) {
            if (steps.placeBy(rows[term], 'n') == NOWHERE) {
                normal++;
            }
        }
        return (float) normal / (float) count;
    }

    public double meanSize() throws ArithmeticException {
        if (count == 0) {
            throw new ArithmeticException("there are no terms");
        }
        int sum = 0;
        for (int term = 0; term < count && term < rows.length; term++) {
            sum += rows[term].length();
        }
        return (double) sum / (double) count;
    }

    public boolean isSound() {
        for (int term = 0; term < count && term < rows.length; term++) {
            if (!maker.isWhole(rows[term])) {
                return false;
            }
        }
        return true;
    }

    private Row known(int term) {
        Row row = term < 0 || term >= count || term >= rows.length ? null : rows[term];
        if (row == null) {
            throw new IndexOutOfBoundsException("there is no such term");
        }
        return row;
    }

    private int addedIf(boolean isFit) {
        if (!isFit) {
            throw new UnsupportedOperationException("the term is too great");
        }
        return added(left);
    }

    private int added(Row made) {
        if (count >= rows.length) {
            throw new IllegalStateException("there are 40 terms");
        }
        rows[count].take(made);
        count++;
        return count - 1;
    }

    private int redexPlace(Row row, int redex) {
        int place = steps.placeOf(row, redex);
        if (place == NOWHERE) {
            throw new NoSuchElementException("there is no such redex");
        }
        return place;
    }

    private char bestFor(Row row) {
        char found = NONE;
        int fewest = MOST_STEPS + 1;
        for (int i = 0; i < 3; i++) {
            char strategy = i == 0 ? 'n' : i == 1 ? 'a' : 'p';
            left.take(row);
            // Only fewer steps than the fewest so far can change the answer, so no more are made.
            int made = fewest == 0 ? NOWHERE : steps.leadOn(left, strategy, fewest - 1);
            if (made >= 0) {
                found = strategy;
                fewest = made;
            }
        }
        return found;
    }

    private Row treeOf(int term, int depth) {
        Row row = known(term);
        checkDepth(depth);
        left.empty();
        if (!trees.grow(steps, row, 0, depth, 0, left)) {
            throw new UnsupportedOperationException("the tree is too great");
        }
        return left;
    }

    private int treesUnlikeAt(Row one, Row other, int depth) {
        left.empty();
        right.empty();
        if (!trees.grow(steps, one, 0, depth, 0, left) || !trees.grow(steps, other, 0, depth, 0, right)) {
            throw new UnsupportedOperationException("a tree is too great");
        }
        return left.unlikeTo(right);
    }

    private Row typeOf(int term) {
        Row row = known(term);
        if (!types.find(row) || !types.tell()) {
            throw new UnsupportedOperationException("no type, or one too great");
        }
        return types.told();
    }

    private Row combinatorsOf(int term) {
        Row row = known(term);
        if (!combiner.combine(row)) {
            throw new UnsupportedOperationException("a part is too great");
        }
        return combiner.made();
    }

    private void runMachine(Row row, boolean isByNeed) {
        if (!machine.run(row, isByNeed)) {
            throw new UnsupportedOperationException("too many betas");
        }
    }

    private static char told(Row row, int index) {
        if (index < 0 || index >= row.length()) {
            throw new NoSuchElementException("there is no such sign");
        }
        return row.toldAt(index);
    }

    private static void checkLetter(char letter) {
        if (!isLetter(letter)) {
            throw new IllegalArgumentException("no such letter");
        }
    }

    private static void checkStrategy(char strategy) {
        if (strategy != 'n' && strategy != 'a' && strategy != 'h' && strategy != 'w' && strategy != 'p') {
            throw new IllegalArgumentException("no such strategy");
        }
    }

    private static void checkDepth(int depth) {
        if (depth < 0 || depth > MOST_DEPTH) {
            throw new IllegalArgumentException("the depth is out of range");
        }
    }

    private static boolean isLetter(int sign) {
        return sign >= 'a' && sign <= 'z';
    }

    private static boolean isApplication(int sign) {
        return sign == '@' || sign == MARKED || sign == TRACED;
    }

    /** Signs in a row, up to as many as it was made for. */
    private static final class Row {
        private final int[] signs;
        private int length;

        Row(int most) {
            signs = new int[most < 0 ? 0 : most];
        }

        int length() {
            return length;
        }

        void empty() {
            length = 0;
        }

        int at(int index) {
            return index < 0 || index >= length ? NONE : signs[index];
        }

        /** The sign as the document tells it. */
        char toldAt(int index) {
            int sign = at(index);
            return (char) (sign >= BOUND ? 'A' + (sign - BOUND) : sign);
        }

        boolean add(int sign) {
            if (length >= signs.length) {
                return false;
            }
            signs[length] = sign;
            length++;
            return true;
        }

        boolean addPart(Row other, int from, int to) {
            boolean isFit = true;
            for (int i = from; i < to && isFit; i++) {
                isFit = add(other.at(i));
            }
            return isFit;
        }

        void take(Row other) {
            length = 0;
            for (int i = 0; i < other.length && i < signs.length; i++) {
                signs[i] = other.at(i);
                length++;
            }
        }

        void set(int index, int sign) {
            if (index >= 0 && index < length) {
                signs[index] = sign;
            }
        }

        boolean insert(int index, int sign) {
            if (index < 0 || index > length || !add(sign)) {
                return false;
            }
            for (int i = length - 1; i > index; i--) {
                signs[i] = signs[i - 1];
            }
            signs[index] = sign;
            return true;
        }

        void remove(int index) {
            if (index < 0 || index >= length) {
                return;
            }
            for (int i = index + 1; i < length; i++) {
                signs[i - 1] = signs[i];
            }
            length--;
        }

        /** Where the part that begins at a place is over. */
        int endOf(int from) {
            int open = 1;
            int i = from < 0 ? 0 : from;
            for (; i < length && open > 0; i++) {
                int sign = signs[i];
                if (sign == '@' || sign == MARKED || sign == TRACED) {
                    open++;
                } else if (sign != '^') {
                    open--;
                }
            }
            return i;
        }

        /** The first redex that stands at a place or behind it. */
        int redexFrom(int from) {
            for (int i = from < 0 ? 0 : from; i + 1 < length; i++) {
                if (signs[i] == '@' && signs[i + 1] == '^') {
                    return i;
                }
            }
            return NOWHERE;
        }

        int placesOf(int sign) {
            int places = 0;
            for (int i = 0; i < length; i++) {
                if (signs[i] == sign) {
                    places++;
                }
            }
            return places;
        }

        /** The first index at which two rows are unlike. */
        int unlikeTo(Row other) {
            int longer = length > other.length ? length : other.length;
            for (int i = 0; i < longer; i++) {
                if (at(i) != other.at(i)) {
                    return i;
                }
            }
            return NOWHERE;
        }

        /** In the signs of a type: how many arguments it takes. */
        int argumentsTaken() {
            int taken = 0;
            int i = 0;
            while (taken < length && at(i) == '>') {
                i = endOfType(i + 1);
                taken++;
            }
            return taken;
        }

        private int endOfType(int from) {
            int open = 1;
            int i = from;
            for (; i < length && open > 0; i++) {
                open += at(i) == '>' ? 1 : -1;
            }
            return i;
        }
    }

    /** Follows how many abstractions are around each sign of a part, from its first sign on. */
    private static final class Nesting {
        private final int[] waiting = new int[MOST_SIZE];
        private int count;
        private int depth;

        void begin() {
            count = 0;
            depth = 0;
        }

        int depth() {
            return depth;
        }

        void pass(int sign) {
            if (sign == '^') {
                depth++;
            } else if (sign == '@' || sign == MARKED || sign == TRACED) {
                if (count < waiting.length) {
                    waiting[count] = depth;
                    count++;
                }
            } else if (count > 0) {
                count--;
                depth = waiting[count];
            }
        }
    }

    /** Reads what was typed. */
    private static final class Reader {
        private static final int PART = 0;
        private static final int MORE = 1;
        private static final int LETTER = 2;
        private static final int POINT = 3;

        /** What is open around a place: a bracket, or an abstraction by its letter, and where its inside begins. */
        private final int[] openings = new int[MOST_TYPED];
        private final int[] insides = new int[MOST_TYPED];
        private int count;

        int faultOf(Row typed) {
            int brackets = 0;
            int due = PART;
            for (int i = 0; i < typed.length(); i++) {
                int sign = typed.at(i);
                due = dueBehind(due, sign, brackets);
                if (due == NOWHERE) {
                    return i;
                }
                brackets += sign == '(' ? 1 : sign == ')' ? -1 : 0;
            }
            return due == MORE && brackets == 0 ? NOWHERE : typed.length();
        }

        private static int dueBehind(int due, int sign, int brackets) {
            if (due == LETTER) {
                return isLetter(sign) ? POINT : NOWHERE;
            }
            if (due == POINT) {
                return sign == '.' ? PART : NOWHERE;
            }
            if (sign == ')') {
                return due == MORE && brackets > 0 ? MORE : NOWHERE;
            }
            return isLetter(sign) ? MORE : sign == '^' ? LETTER : sign == '(' ? PART : NOWHERE;
        }

        /** Reads signs in which there is no fault. */
        boolean readInto(Row typed, Row made) {
            made.empty();
            count = 0;
            boolean isFit = true;
            for (int i = 0; i < typed.length() && isFit; i++) {
                int sign = typed.at(i);
                if (sign == ')') {
                    closeBracket();
                    continue;
                }
                isFit = beginPart(made);
                if (sign == '(') {
                    open('(', made.length());
                } else if (sign == '^') {
                    isFit = isFit && made.add('^');
                    open(typed.at(i + 1), made.length());
                    i += 2;
                } else {
                    isFit = isFit && made.add(meant(sign));
                }
            }
            return isFit;
        }

        private void open(int opening, int inside) {
            if (count < openings.length) {
                openings[count] = opening;
                insides[count] = inside;
                count++;
            }
        }

        private void closeBracket() {
            boolean isClosed = false;
            while (count > 0 && !isClosed) {
                count--;
                isClosed = openings[count] == '(';
            }
        }

        /** Parts to the left are applied to this one, so that their application must stand before them. */
        private boolean beginPart(Row made) {
            int inside = count > 0 ? insides[count - 1] : 0;
            return made.length() == inside || made.insert(inside, '@');
        }

        private int meant(int letter) {
            int between = 0;
            for (int i = count - 1; i >= 0; i--) {
                if (openings[i] == letter) {
                    return BOUND + between;
                }
                if (openings[i] != '(') {
                    between++;
                }
            }
            return letter;
        }
    }

    /** Makes terms of others, and tells what kind of term a row is. */
    private static final class Maker {
        private final Nesting nesting = new Nesting();

        void makeNumber(int number, Row made) {
            made.empty();
            made.add('^');
            made.add('^');
            for (int i = 0; i < number; i++) {
                made.add('@');
                made.add(BOUND + 1);
            }
            made.add(BOUND);
        }

        int numberIn(Row row) {
            int number = (row.length() - 3) / 2;
            if (row.length() != 2 * number + 3 || row.at(0) != '^' || row.at(1) != '^') {
                return NOWHERE;
            }
            for (int i = 0; i < number; i++) {
                if (row.at(2 * i + 2) != '@' || row.at(2 * i + 3) != BOUND + 1) {
                    return NOWHERE;
                }
            }
            return row.at(2 * number + 2) == BOUND ? number : NOWHERE;
        }

        boolean makeApplication(Row first, Row second, Row made) {
            made.empty();
            return made.add('@') && made.addPart(first, 0, first.length())
                    && made.addPart(second, 0, second.length());
        }

        boolean makeAbstraction(Row row, char letter, Row made) {
            made.empty();
            boolean isFit = made.add('^');
            nesting.begin();
            for (int i = 0; i < row.length() && isFit; i++) {
                int sign = row.at(i);
                isFit = made.add(sign == letter ? BOUND + nesting.depth() : sign);
                nesting.pass(sign);
            }
            return isFit && nestOf(made) <= MOST_NESTED;
        }

        boolean makeFilled(Row row, char letter, Row part, Row made) {
            made.empty();
            boolean isFit = true;
            for (int i = 0; i < row.length() && isFit; i++) {
                int sign = row.at(i);
                isFit = sign == letter ? made.addPart(part, 0, part.length()) : made.add(sign);
            }
            return isFit && nestOf(made) <= MOST_NESTED;
        }

        /** How many abstractions are inside one another at the most. */
        private int nestOf(Row row) {
            int most = 0;
            nesting.begin();
            for (int i = 0; i < row.length(); i++) {
                nesting.pass(row.at(i));
                most = nesting.depth() > most ? nesting.depth() : most;
            }
            return most;
        }

        /** Whether a row is one term, not too great, in which each bound letter has its abstraction. */
        boolean isWhole(Row row) {
            nesting.begin();
            for (int i = 0; i < row.length(); i++) {
                int sign = row.at(i);
                boolean isBound = sign >= BOUND && sign < BOUND + nesting.depth();
                if (!isBound && sign != '@' && sign != '^' && !isLetter(sign)) {
                    return false;
                }
                nesting.pass(sign);
            }
            return row.length() > 0 && row.endOf(0) == row.length() && nestOf(row) <= MOST_NESTED;
        }
    }

    /**
     * Contracts redexes, those inside first. It goes along a term from the right, so that the parts behind a sign
     * stand already, in front of one another, as the sign that joins them comes.
     */
    private static final class Contraction {
        /** So many parts of the greatest size can stand at once at the most. */
        private static final int MOST_HELD = 102 * MOST_SIZE;

        private final int[] held = new int[MOST_HELD];
        private final int[] sizes = new int[MOST_SIZE];
        private final int[] nests = new int[MOST_SIZE];
        private final int[] made = new int[MOST_SIZE];
        private final Nesting inBody = new Nesting();
        private final Nesting inArgument = new Nesting();
        private int low;
        private int parts;
        private int madeSize;

        /** Contracts the redexes with a mark, unless a part becomes too great. */
        boolean contractAll(Row from, int mark, Row to) {
            low = held.length;
            parts = 0;
            for (int i = from.length() - 1; i >= 0; i--) {
                int sign = from.at(i);
                boolean isFit = sign == mark ? canContract() && contractFront() : hold(sign);
                if (!isFit) {
                    return false;
                }
            }
            to.empty();
            boolean isFit = true;
            for (int i = low; i < held.length && isFit; i++) {
                isFit = to.add(held[i]);
            }
            return isFit;
        }

        private boolean hold(int sign) {
            int joined = isApplication(sign) ? 2 : sign == '^' ? 1 : 0;
            if (low <= 0 || parts < joined || parts - joined >= sizes.length) {
                return false;
            }
            int size = 1;
            int nest = 0;
            for (int i = 0; i < joined; i++) {
                parts--;
                size += sizes[parts];
                nest = nests[parts] > nest ? nests[parts] : nest;
            }
            nest += sign == '^' ? 1 : 0;
            low--;
            held[low] = sign;
            return replaceParts(size, nest);
        }

        private boolean replaceParts(int size, int nest) {
            if (size > MOST_SIZE || nest > MOST_NESTED || parts >= sizes.length) {
                return false;
            }
            sizes[parts] = size;
            nests[parts] = nest;
            parts++;
            return true;
        }

        private boolean canContract() {
            return parts >= 2 && parts <= sizes.length && low >= 0 && low < held.length && held[low] == '^'
                    && low + sizes[parts - 1] + sizes[parts - 2] <= held.length;
        }

        /** The front part is an abstraction, the next one its argument. */
        private boolean contractFront() {
            int body = low + 1;
            int argument = low + sizes[parts - 1];
            int end = argument + sizes[parts - 2];
            int bodyNest = nests[parts - 1] - 1;
            int argumentNest = nests[parts - 2];
            int nest = bodyNest;
            madeSize = 0;
            inBody.begin();
            for (int i = body; i < argument; i++) {
                int sign = held[i];
                int depth = inBody.depth();
                boolean isPlace = sign == BOUND + depth;
                if (isPlace && depth + argumentNest > nest) {
                    nest = depth + argumentNest;
                }
                // A letter bound outside has one abstraction less around it then.
                int madeSign = sign > BOUND + depth ? sign - 1 : sign;
                boolean isFit = isPlace ? putArgument(argument, end, depth) : make(madeSign);
                if (!isFit) {
                    return false;
                }
                inBody.pass(sign);
            }
            if (madeSize > end) {
                return false;
            }
            low = end - madeSize;
            for (int i = 0; i < madeSize; i++) {
                held[low + i] = made[i];
            }
            parts -= 2;
            return replaceParts(madeSize, nest);
        }

        /** A letter of the argument that is bound outside of it has the abstractions of the body around it, too. */
        private boolean putArgument(int from, int to, int depth) {
            if (madeSize + to - from > made.length) {
                return false;
            }
            inArgument.begin();
            for (int i = from; i < to; i++) {
                int sign = held[i];
                made[madeSize] = sign >= BOUND + inArgument.depth() ? sign + depth : sign;
                madeSize++;
                inArgument.pass(sign);
            }
            return true;
        }

        private boolean make(int sign) {
            if (madeSize >= made.length) {
                return false;
            }
            made[madeSize] = sign;
            madeSize++;
            return true;
        }
    }

    /** Finds redexes and makes steps by strategies. */
    private static final class Steps {
        private final Contraction contraction = new Contraction();
        private final Row marked = new Row(MOST_SIZE);

        int redexesOf(Row row) {
            int found = 0;
            int place = row.redexFrom(0);
            for (int i = 0; i < row.length() && place != NOWHERE; i++) {
                found++;
                place = row.redexFrom(place + 1);
            }
            return found;
        }

        int placeOf(Row row, int redex) {
            int place = NOWHERE;
            if (redex < 0 || redex >= row.length()) {
                return place;
            }
            for (int i = 0; i <= redex; i++) {
                place = row.redexFrom(place + 1);
                if (place == NOWHERE) {
                    return place;
                }
            }
            return place;
        }

        /** The first redex that a step by a strategy contracts. */
        int placeBy(Row row, char strategy) {
            if (strategy == 'a') {
                return innermost(row);
            }
            if (strategy == 'h' || strategy == 'w') {
                return headRedex(row, strategy == 'h');
            }
            return row.redexFrom(0);
        }

        private static int innermost(Row row) {
            int place = row.redexFrom(0);
            for (int i = 0; i < row.length() && place != NOWHERE; i++) {
                int next = row.redexFrom(place + 1);
                if (next == NOWHERE || next >= row.endOf(place)) {
                    return place;
                }
                place = next;
            }
            return place;
        }

        private static int headRedex(Row row, boolean isBehindAbstractions) {
            int place = 0;
            while (isBehindAbstractions && place < row.length() && row.at(place) == '^') {
                place++;
            }
            while (place < row.length() && row.at(place) == '@' && row.at(place + 1) == '@') {
                place++;
            }
            return row.at(place) == '@' && row.at(place + 1) == '^' ? place : NOWHERE;
        }

        /** Makes a step on a term that is not normal by the strategy; it stays as it is if it would be too great. */
        boolean stepOn(Row row, char strategy) {
            markBy(row, strategy);
            return contraction.contractAll(marked, MARKED, row);
        }

        /** Steps until a term is normal: how many, or NOWHERE if it is not behind the most, or too great. */
        int leadOn(Row row, char strategy, int most) {
            for (int made = 0; made <= most; made++) {
                if (!markBy(row, strategy)) {
                    return made;
                }
                if (made == most || !contraction.contractAll(marked, MARKED, row)) {
                    return NOWHERE;
                }
            }
            return NOWHERE;
        }

        private boolean markBy(Row row, char strategy) {
            int place = placeBy(row, strategy);
            if (place == NOWHERE) {
                return false;
            }
            marked.take(row);
            marked.set(place, MARKED);
            for (int i = 0; i < row.length() && strategy == 'p' && place != NOWHERE; i++) {
                marked.set(place, MARKED);
                place = row.redexFrom(place + 1);
            }
            return true;
        }

        /** Contracts one redex; the residuals of the other one are then traced. */
        boolean contractTracing(Row row, int contracted, int traced, Row to) {
            marked.take(row);
            marked.set(traced, TRACED);
            marked.set(contracted, MARKED);
            return contraction.contractAll(marked, MARKED, to);
        }

        /** Contracts one redex and then the residuals of the other one. */
        boolean contractBoth(Row row, int first, int second, Row to) {
            return contractTracing(row, first, second, marked) && contraction.contractAll(marked, TRACED, to);
        }
    }

    /** Reduces by eta. */
    private static final class Eta {
        private final Nesting nesting = new Nesting();

        /** From the right, so that what is inside comes first; how many abstractions went. */
        int shorten(Row row) {
            int gone = 0;
            for (int i = row.length() - 1; i >= 0; i--) {
                if (row.at(i) == '^' && row.at(i + 1) == '@') {
                    int end = row.endOf(i + 2);
                    if (row.at(end) == BOUND && !hasOwnLetter(row, i + 2, end)) {
                        lower(row, i + 2, end);
                        row.remove(end);
                        row.remove(i + 1);
                        row.remove(i);
                        gone++;
                    }
                }
            }
            return gone;
        }

        private boolean hasOwnLetter(Row row, int from, int to) {
            nesting.begin();
            for (int i = from; i < to; i++) {
                if (row.at(i) == BOUND + nesting.depth()) {
                    return true;
                }
                nesting.pass(row.at(i));
            }
            return false;
        }

        private void lower(Row row, int from, int to) {
            nesting.begin();
            for (int i = from; i < to; i++) {
                int sign = row.at(i);
                if (sign > BOUND + nesting.depth()) {
                    row.set(i, sign - 1);
                }
                nesting.pass(sign);
            }
        }
    }

    /** Grows the trees of terms. */
    private static final class Trees {
        private final Row[] forms = new Row[MOST_DEPTH + 1];

        Trees() {
            for (int i = 0; i < forms.length; i++) {
                forms[i] = new Row(MOST_SIZE);
            }
        }

        /** Adds the tree to a depth of the part that begins at a place, under so many abstractions; whether it fits. */
        boolean grow(Steps steps, Row row, int start, int depth, int around, Row tree) {
            if (depth <= 0 || depth >= forms.length) {
                return tree.add('?');
            }
            Row form = forms[depth];
            form.empty();
            if (!form.addPart(row, start, row.endOf(start)) || steps.leadOn(form, 'h', MOST_HEAD_STEPS) < 0) {
                return tree.add('?');
            }
            int abstractions = 0;
            while (abstractions < form.length() && form.at(abstractions) == '^') {
                abstractions++;
            }
            int head = abstractions;
            while (head < form.length() && form.at(head) == '@') {
                head++;
            }
            int nested = around + abstractions;
            boolean isFit = nested <= MOST_NESTED && tree.addPart(form, 0, head + 1);
            int from = head + 1;
            for (int i = abstractions; i < head && isFit; i++) {
                isFit = grow(steps, form, from, depth - 1, nested, tree);
                from = form.endOf(from);
            }
            return isFit;
        }
    }

    /** Finds the most general types. */
    private static final class Types {
        /** Each place of a term has a type, then each application or abstraction one more, then each letter one. */
        private static final int OWN = MOST_SIZE;
        private static final int FREE = 2 * MOST_SIZE;
        private static final int NODES = FREE + LETTERS;
        private static final int MOST_TURNS = 1000000;

        private final int[] above = new int[NODES];
        private final int[] from = new int[NODES];
        private final int[] to = new int[NODES];
        private final boolean[] isFinite = new boolean[NODES];
        private final int[] names = new int[NODES];
        private final int[] waiting = new int[4 * NODES];
        private final int[] scopes = new int[MOST_SIZE];
        private final Nesting nesting = new Nesting();
        private final Row told = new Row(MOST_TYPE_SIGNS);
        private int count;

        boolean find(Row row) {
            build(row);
            nesting.begin();
            for (int i = 0; i < row.length() && i < OWN; i++) {
                int sign = row.at(i);
                demand(i, sign);
                nesting.pass(sign);
            }
            return areFinite();
        }

        /** All types that are from one to another stand before any is made the same as another one. */
        private void build(Row row) {
            for (int i = 0; i < NODES; i++) {
                above[i] = i;
                from[i] = NOWHERE;
                to[i] = NOWHERE;
            }
            for (int i = 0; i < row.length() && i < OWN; i++) {
                int sign = row.at(i);
                if (sign == '^') {
                    from[i] = OWN + i;
                    to[i] = i + 1;
                } else if (sign == '@') {
                    from[OWN + i] = row.endOf(i + 1);
                    to[OWN + i] = i;
                }
            }
        }

        /** Demands of the types what the sign at a place asks of them. */
        private void demand(int place, int sign) {
            int depth = nesting.depth();
            if (sign == '^') {
                if (depth < scopes.length) {
                    scopes[depth] = place;
                }
            } else if (sign == '@') {
                unify(place + 1, OWN + place);
            } else if (sign >= BOUND) {
                int scope = depth - 1 - (sign - BOUND);
                if (scope >= 0 && scope < scopes.length) {
                    unify(place, OWN + scopes[scope]);
                }
            } else {
                unify(place, FREE + sign - 'a');
            }
        }

        private int root(int node) {
            int found = node < 0 || node >= NODES ? 0 : node;
            for (int i = 0; i < NODES && above[found] != found; i++) {
                above[found] = above[above[found]];
                found = above[found];
            }
            return found;
        }

        private void unify(int one, int other) {
            count = 0;
            await(one);
            await(other);
            for (int turn = 0; turn < MOST_TURNS && count >= 2; turn++) {
                count -= 2;
                int open = root(waiting[count]);
                int kept = root(waiting[count + 1]);
                if (open == kept) {
                    continue;
                }
                if (from[open] != NOWHERE && from[kept] == NOWHERE) {
                    int swapped = open;
                    open = kept;
                    kept = swapped;
                }
                above[open] = kept;
                if (from[open] != NOWHERE) {
                    await(from[open]);
                    await(from[kept]);
                    await(to[open]);
                    await(to[kept]);
                }
            }
        }

        private void await(int node) {
            if (count < waiting.length) {
                waiting[count] = node;
                count++;
            }
        }

        /** No type may be a part of itself: all are built from open ones in so many rounds as there are. */
        private boolean areFinite() {
            for (int i = 0; i < NODES; i++) {
                isFinite[i] = from[root(i)] == NOWHERE;
            }
            boolean isChanged = true;
            for (int round = 0; round < NODES && isChanged; round++) {
                isChanged = false;
                for (int i = NODES - 1; i >= 0; i--) {
                    if (above[i] == i && !isFinite[i] && isFinite[root(from[i])] && isFinite[root(to[i])]) {
                        isFinite[i] = true;
                        isChanged = true;
                    }
                }
            }
            for (int i = 0; i < NODES; i++) {
                if (!isFinite[root(i)]) {
                    return false;
                }
            }
            return true;
        }

        /** Writes the type that was found, unless it has too many letters or signs. */
        boolean tell() {
            for (int i = 0; i < NODES; i++) {
                names[i] = NONE;
            }
            told.empty();
            int letters = 0;
            count = 0;
            await(0);
            for (int turn = 0; turn < MOST_TURNS && count > 0; turn++) {
                count--;
                int node = root(waiting[count]);
                int sign = '>';
                if (from[node] != NOWHERE) {
                    await(to[node]);
                    await(from[node]);
                } else {
                    if (names[node] == NONE) {
                        names[node] = 'a' + letters;
                        letters++;
                    }
                    sign = names[node];
                }
                if (letters > LETTERS || !told.add(sign)) {
                    return false;
                }
            }
            return true;
        }

        Row told() {
            return told;
        }
    }

    /** Takes the letters out of terms. It goes along a term from the right, as a contraction does. */
    private static final class Combiner {
        /** Letters taken out can shorten what stands by 200 signs in all, so beyond this a part is too great. */
        private static final int MOST_HELD = 4 * MOST_COMBINED;

        private final int[] held = new int[MOST_HELD];
        private final Row made = new Row(MOST_COMBINED);
        private int low;

        /** Whether all goes without a part that is too great. */
        boolean combine(Row row) {
            low = held.length;
            for (int i = row.length() - 1; i >= 0; i--) {
                int sign = row.at(i);
                if (!(sign == '^' ? takeOut() : hold(sign))) {
                    return false;
                }
            }
            made.empty();
            boolean isFit = true;
            for (int i = low; i < held.length && isFit; i++) {
                isFit = made.add(held[i]);
            }
            return isFit;
        }

        Row made() {
            return made;
        }

        private boolean hold(int sign) {
            if (low <= 0) {
                return false;
            }
            low--;
            held[low] = sign;
            return sign != '@' || endOf(low) - low <= MOST_COMBINED;
        }

        private int endOf(int from) {
            int open = 1;
            int i = from < 0 ? 0 : from;
            for (; i < held.length && open > 0; i++) {
                open += held[i] == '@' ? 1 : -1;
            }
            return i;
        }

        /** Takes the letter of the nearest abstraction out of the front part. */
        private boolean takeOut() {
            int end = endOf(low);
            made.empty();
            int i = low;
            boolean isFit = true;
            // Each turn goes on by a sign or more.
            for (int turn = low; turn < end && i < end && isFit; turn++) {
                int partEnd = endOf(i);
                int right = held[i] == '@' ? endOf(i + 1) : NOWHERE;
                if (!hasLetter(i, partEnd)) {
                    isFit = made.add('@') && made.add('K') && addLowered(i, partEnd);
                    i = partEnd;
                } else if (right == NOWHERE) {
                    isFit = made.add('I');
                    i++;
                } else if (right == partEnd - 1 && held[right] == BOUND && !hasLetter(i + 1, right)) {
                    isFit = addLowered(i + 1, right);
                    i = partEnd;
                } else {
                    isFit = made.add('@') && made.add('@') && made.add('S');
                    i++;
                }
            }
            return isFit && replaceFront(end);
        }

        private boolean hasLetter(int from, int to) {
            for (int i = from; i < to && i < held.length; i++) {
                if (held[i] == BOUND) {
                    return true;
                }
            }
            return false;
        }

        private boolean addLowered(int from, int to) {
            boolean isFit = true;
            for (int i = from; i < to && i < held.length && isFit; i++) {
                isFit = made.add(held[i] > BOUND ? held[i] - 1 : held[i]);
            }
            return isFit;
        }

        private boolean replaceFront(int end) {
            if (made.length() > end) {
                return false;
            }
            low = end - made.length();
            for (int i = 0; i < made.length(); i++) {
                held[low + i] = made.at(i);
            }
            return true;
        }
    }

    /** Finds the form of a term by w with its arguments kept as they are. */
    private static final class Machine {
        /** A place in the row of kept arguments at which it is not an argument that waits, but one being found. */
        private static final int BEING_FOUND = -2;
        private static final int MOST_TURNS = 1000000;

        /**
         * Not more than the betas and the arguments being found are ever taken from what is kept, so only so many
         * of the last ones are held, round about; a power of two.
         */
        private static final int HELD = 256;

        /** Each beta binds a letter: to a place in the term, with what letters mean there, inside an outer letter. */
        private final int[] places = new int[MOST_BETAS + 1];
        private final int[] scopes = new int[MOST_BETAS + 1];
        private final int[] outer = new int[MOST_BETAS + 1];
        private final boolean[] isFound = new boolean[MOST_BETAS + 1];
        private final int[] keptPlaces = new int[HELD];
        private final int[] keptScopes = new int[HELD];
        private final int[] rights = new int[MOST_SIZE];
        private int betas;
        private int kept;
        private int place;
        private int scope;
        private boolean isAbstraction;

        int betasMade() {
            return betas;
        }

        int argumentsLeft() {
            return isAbstraction ? -1 : kept;
        }

        /** Whether the form was found with no more betas than may be. */
        boolean run(Row row, boolean isByNeed) {
            begin(row);
            for (int turn = 0; turn < MOST_TURNS; turn++) {
                int sign = row.at(place);
                isAbstraction = sign == '^';
                if (sign == '@') {
                    keep(place < 0 || place >= rights.length ? 0 : rights[place], scope);
                    place++;
                } else if (sign >= BOUND) {
                    enter(sign - BOUND, isByNeed);
                } else if (!isAbstraction || kept == 0) {
                    return true;
                } else if (!feed()) {
                    return false;
                }
            }
            return false;
        }

        private void begin(Row row) {
            betas = 0;
            kept = 0;
            place = 0;
            scope = NOWHERE;
            for (int i = 0; i < row.length() && i < rights.length; i++) {
                rights[i] = row.at(i) == '@' ? row.endOf(i + 1) : 0;
            }
        }

        private void keep(int keptPlace, int keptScope) {
            int index = kept & HELD - 1;
            keptPlaces[index] = keptPlace;
            keptScopes[index] = keptScope;
            kept++;
        }

        private void enter(int between, boolean isByNeed) {
            int letter = scope;
            for (int i = 0; i < between && letter >= 0 && letter < outer.length; i++) {
                letter = outer[letter];
            }
            if (letter < 0 || letter >= places.length) {
                return;
            }
            if (isByNeed && !isFound[letter]) {
                keep(BEING_FOUND, letter);
            }
            place = places[letter];
            scope = scopes[letter];
        }

        /** The abstraction at hand gets the last kept argument, or is what an argument led to. */
        private boolean feed() {
            kept--;
            int index = kept & HELD - 1;
            int letter = keptPlaces[index] == BEING_FOUND ? keptScopes[index] : betas;
            if (letter < 0 || letter >= MOST_BETAS) {
                return false;
            }
            isFound[letter] = keptPlaces[index] == BEING_FOUND;
            if (isFound[letter]) {
                places[letter] = place;
                scopes[letter] = scope;
                return true;
            }
            places[letter] = keptPlaces[index];
            scopes[letter] = keptScopes[index];
            outer[letter] = scope;
            scope = letter;
            place++;
            betas++;
            return true;
        }
    }
}
