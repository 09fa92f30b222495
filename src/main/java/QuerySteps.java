/** Questions in two text forms, read to the same trees, saved, and run over records. */
public final class QuerySteps {
    public static final int NONE = -1;

    private static final int LEAF = 0;
    private static final int RANGE = 1;
    private static final int BEGINS = 2;
    private static final int AND = 3;
    private static final int OR = 4;
    private static final int NOT = 5;

    private static final int MOST_SIGNS = 200;
    private static final int MOST_INDEXES = 8;
    private static final int MOST_LETTERS = 8;
    private static final int MOST_DIGITS = 5;
    private static final int MOST_VALUE = 99999;
    private static final int MOST_NODES = 40;
    private static final int MOST_DEPTH = 20;
    private static final int MOST_RECORDS = 60;
    private static final int MOST_ENTRIES = 8;
    private static final int MOST_QUESTIONS = 10;

    private final Source source;
    private final Indexes indexes;
    private final Unknown unknown;
    private final Tree draft;
    private final Tree tree;
    private final Reader between;
    private final Reader front;
    private final Records records;
    private final Question[] questions;
    private final Hits hits;

    public QuerySteps() {
        source = new Source();
        indexes = new Indexes();
        unknown = new Unknown();
        draft = new Tree();
        tree = new Tree();
        between = new BetweenReader(source, indexes, unknown, draft);
        front = new FrontReader(source, indexes, unknown, draft);
        records = new Records();
        questions = new Question[MOST_QUESTIONS];
        for (int i = 0; i < MOST_QUESTIONS; i++) {
            questions[i] = new Question();
        }
        hits = new Hits();
    }

    public void sign(int c) {
        source.collect(c & 255);
    }

    public int index() {
        int number = indexes.register(source);
        source.clear();
        return number;
    }

    public boolean on(int index, boolean on) {
        return indexes.turn(index, on);
    }

    public int read(int form) {
        Reader reader = form == 0 ? between : front;
        unknown.forget();
        draft.clear();
        source.moveTo(0);
        boolean fits = reader.takesTree(0) && source.isAtEnd();
        int place = source.place();
        source.clear();
        if (!fits) {
            return -1 - place;
        }
        tree.copyFrom(draft);
        return tree.size();
    }

    public int node(int i, int what) {
        switch (what) {
            case 0:
                return tree.sortAt(i);
            case 1:
                return tree.indexAt(i);
            case 2:
                return tree.leastAt(i);
            case 3:
                return tree.greatestAt(i);
            default:
                return NONE;
        }
    }

    public int near() {
        return indexes.nearest(unknown);
    }

    public int record(long moment) {
        return records.add(moment);
    }

    public int entry(int record, int index, int v) {
        if (!indexes.has(index) || v < 0 || v > MOST_VALUE) {
            return 0;
        }
        return records.addEntry(record, index, v);
    }

    public int save(int question) {
        if (question < 0 || question >= MOST_QUESTIONS || tree.size() == 0) {
            return 0;
        }
        questions[question].keep(tree);
        return 1;
    }

    public int run(int question) {
        if (!canRun(question)) {
            return NONE;
        }
        return hits.gather(records, questions[question], false);
    }

    public int alert(int question) {
        if (!canRun(question)) {
            return NONE;
        }
        int found = hits.gather(records, questions[question], true);
        // Without a record there is no moment to remember: all that come later are new.
        if (records.size() > 0) {
            questions[question].lookedUpTo(records.momentOf(records.size()));
        }
        return found;
    }

    public int at(int i) {
        return hits.numberAt(i);
    }

    public boolean same(int a, int b) {
        return isSaved(a) && isSaved(b) && questions[a].tree.isLike(questions[b].tree);
    }

    public int broken() {
        int count = 0;
        for (int i = 0; i < MOST_QUESTIONS; i++) {
            if (isSaved(i) && indexes.isBroken(questions[i].tree)) {
                count++;
            }
        }
        return count;
    }

    private boolean isSaved(int question) {
        return question >= 0 && question < MOST_QUESTIONS && questions[question].isKept;
    }

    private boolean canRun(int question) {
        return isSaved(question) && !indexes.isBroken(questions[question].tree);
    }

    /** The collected signs and the place of reading; after a failed take the place is the WRONG one. */
    private static final class Source {
        private static final int END = -1;

        private final int[] signs = new int[MOST_SIGNS];
        private int length = 0;
        private int place = 0;

        void collect(int c) {
            if (length >= 0 && length < MOST_SIGNS) {
                signs[length] = c;
                length++;
            }
        }

        void clear() {
            length = 0;
            place = 0;
        }

        int length() {
            return length;
        }

        int place() {
            return place;
        }

        void moveTo(int newPlace) {
            place = newPlace;
        }

        boolean isAtEnd() {
            return place >= length;
        }

        int signAt(int i) {
            return i >= 0 && i < length && i < MOST_SIGNS ? signs[i] : END;
        }

        boolean take(int c) {
            if (signAt(place) != c) {
                return false;
            }
            place++;
            return true;
        }

        /** Where the row of small letters that begins at the place ends. */
        int rowEnd() {
            int end = place;
            while (end < length && isSmallLetter(signAt(end))) {
                end++;
            }
            return end;
        }

        /** A VALUE, or NONE with the place at the sign that does not fit. */
        int takeValue() {
            int value = 0;
            int digits = 0;
            while (digits < MOST_DIGITS && isDigit(signAt(place))) {
                value = value * 10 + signAt(place) - '0';
                place++;
                digits++;
            }
            return digits == 0 || isDigit(signAt(place)) ? NONE : value;
        }

        /** The sort that the signs from the place up to an end spell: AND, OR, NOT, else NONE. */
        int joiningSort(int end) {
            if (spells("and", end)) {
                return AND;
            }
            if (spells("or", end)) {
                return OR;
            }
            return spells("not", end) ? NOT : NONE;
        }

        private boolean spells(String word, int end) {
            if (end - place != word.length()) {
                return false;
            }
            for (int i = 0; i < word.length(); i++) {
                if (signAt(place + i) != word.charAt(i)) {
                    return false;
                }
            }
            return true;
        }

        private static boolean isSmallLetter(int c) {
            return c >= 'a' && c <= 'z';
        }

        private static boolean isDigit(int c) {
            return c >= '0' && c <= '9';
        }
    }

    /** The row of small letters that was no index's NAME in the latest text read; empty if none was. */
    private static final class Unknown {
        private final int[] letters = new int[MOST_SIGNS];
        private int length = 0;

        void forget() {
            length = 0;
        }

        void keep(Source source, int end) {
            int start = source.place();
            length = 0;
            for (int i = start; i < end && length < MOST_SIGNS; i++) {
                letters[length] = source.signAt(i);
                length++;
            }
        }

        int length() {
            return length;
        }

        int letterAt(int i) {
            return i >= 0 && i < length && i < MOST_SIGNS ? letters[i] : NONE;
        }
    }

    /** The indexes: their NAMES, and whether they are on. */
    private static final class Indexes {
        private final int[] letters = new int[MOST_INDEXES * MOST_LETTERS];
        private final int[] lengths = new int[MOST_INDEXES];
        private final boolean[] isOn = new boolean[MOST_INDEXES];
        private final int[] changes = new int[MOST_LETTERS + 1];
        private int count = 0;

        boolean has(int index) {
            return index >= 0 && index < count && index < MOST_INDEXES;
        }

        boolean turn(int index, boolean toOn) {
            if (!has(index)) {
                return false;
            }
            boolean was = isOn[index];
            isOn[index] = toOn;
            return was;
        }

        boolean isBroken(Tree tree) {
            for (int i = 0; i < tree.size(); i++) {
                int index = tree.indexAt(i);
                if (has(index) && !isOn[index]) {
                    return true;
                }
            }
            return false;
        }

        int register(Source source) {
            source.moveTo(0);
            int length = source.length();
            if (count < 0 || count >= MOST_INDEXES || length < 1 || length > MOST_LETTERS) {
                return NONE;
            }
            boolean isRow = source.rowEnd() == length;
            if (!isRow || source.joiningSort(length) != NONE || find(source, length) != NONE) {
                return NONE;
            }
            for (int j = 0; j < length; j++) {
                letters[count * MOST_LETTERS + j] = source.signAt(j);
            }
            lengths[count] = length;
            isOn[count] = true;
            count++;
            return count - 1;
        }

        /** The index whose NAME the signs from the source's place up to an end are, or NONE. */
        int find(Source source, int end) {
            for (int index = 0; index < count; index++) {
                if (isNameOf(index, source, end)) {
                    return index;
                }
            }
            return NONE;
        }

        private boolean isNameOf(int index, Source source, int end) {
            int start = source.place();
            if (lengthOf(index) != end - start) {
                return false;
            }
            for (int j = 0; j < lengthOf(index); j++) {
                if (letterOf(index, j) != source.signAt(start + j)) {
                    return false;
                }
            }
            return true;
        }

        /** Kept to what a NAME may have, as rows of letters and changes are entered by it. */
        private int lengthOf(int index) {
            return has(index) ? Math.max(0, Math.min(lengths[index], MOST_LETTERS)) : 0;
        }

        private int letterOf(int index, int j) {
            return has(index) && j >= 0 && j < MOST_LETTERS ? letters[index * MOST_LETTERS + j] : NONE;
        }

        int nearest(Unknown unknown) {
            int best = NONE;
            int fewest = 0;
            if (unknown.length() == 0) {
                return NONE;
            }
            for (int index = 0; index < count; index++) {
                int steps = changesTo(index, unknown);
                if (best == NONE || steps < fewest) {
                    best = index;
                    fewest = steps;
                }
            }
            return best;
        }

        /** Row by row: changes[j] is what the unknown letters so far cost to become the NAME's first j. */
        private int changesTo(int index, Unknown unknown) {
            int length = lengthOf(index);
            for (int j = 0; j <= length; j++) {
                changes[j] = j;
            }
            for (int i = 0; i < unknown.length(); i++) {
                int before = changes[0];
                changes[0] = i + 1;
                for (int j = 1; j <= length; j++) {
                    int changed = before + (unknown.letterAt(i) == letterOf(index, j - 1) ? 0 : 1);
                    before = changes[j];
                    changes[j] = Math.min(changed, Math.min(before, changes[j - 1]) + 1);
                }
            }
            return changes[length];
        }
    }

    /** Nodes in front: a node, then its first tree, then its second one. */
    private static final class Tree {
        private final int[] sorts = new int[MOST_NODES];
        private final int[] indexNumbers = new int[MOST_NODES];
        private final int[] leasts = new int[MOST_NODES];
        private final int[] greatests = new int[MOST_NODES];
        private int size = 0;

        void clear() {
            size = 0;
        }

        int size() {
            return size;
        }

        boolean isFull() {
            return size < 0 || size >= MOST_NODES;
        }

        private boolean has(int i) {
            return i >= 0 && i < size && i < MOST_NODES;
        }

        int sortAt(int i) {
            return has(i) ? sorts[i] : NONE;
        }

        int indexAt(int i) {
            return has(i) ? indexNumbers[i] : NONE;
        }

        int leastAt(int i) {
            return has(i) ? leasts[i] : NONE;
        }

        int greatestAt(int i) {
            return has(i) ? greatests[i] : NONE;
        }

        boolean append(int sort, int index, int least, int greatest) {
            if (isFull()) {
                return false;
            }
            size++;
            put(size - 1, sort, index, least, greatest);
            return true;
        }

        /** AND, OR or NOT comes in front of its first tree, which is all that stands from a place on. */
        boolean insert(int place, int sort) {
            if (isFull() || place < 0) {
                return false;
            }
            size++;
            for (int i = size - 1; i > place; i--) {
                copyNode(i, this, i - 1);
            }
            put(place, sort, NONE, NONE, NONE);
            return true;
        }

        void copyFrom(Tree other) {
            size = other.size;
            for (int i = 0; i < size; i++) {
                copyNode(i, other, i);
            }
        }

        boolean isLike(Tree other) {
            if (size != other.size) {
                return false;
            }
            for (int i = 0; i < size; i++) {
                if (!isNodeLike(other, i)) {
                    return false;
                }
            }
            return true;
        }

        private boolean isNodeLike(Tree other, int i) {
            return sortAt(i) == other.sortAt(i) && indexAt(i) == other.indexAt(i)
                    && leastAt(i) == other.leastAt(i) && greatestAt(i) == other.greatestAt(i);
        }

        private void copyNode(int to, Tree other, int from) {
            put(to, other.sortAt(from), other.indexAt(from), other.leastAt(from), other.greatestAt(from));
        }

        private void put(int i, int sort, int index, int least, int greatest) {
            if (has(i)) {
                sorts[i] = sort;
                indexNumbers[i] = index;
                leasts[i] = least;
                greatests[i] = greatest;
            }
        }
    }

    /** What the two forms share. A method that takes answers false with the source at the WRONG place. */
    private abstract static class Reader {
        final Source source;
        final Tree draft;
        private final Indexes indexes;
        private final Unknown unknown;

        Reader(Source source, Indexes indexes, Unknown unknown, Tree draft) {
            this.source = source;
            this.indexes = indexes;
            this.unknown = unknown;
            this.draft = draft;
        }

        /** Takes a whole tree; depth is how many brackets stand open round it. */
        abstract boolean takesTree(int depth);

        /** The index of a NAME that begins a node, or NONE with the source at its first sign. */
        int takeName() {
            int end = source.rowEnd();
            if (end == source.place()) {
                return NONE;
            }
            int index = indexes.find(source, end);
            if (index == NONE) {
                unknown.keep(source, end);
                return NONE;
            }
            if (draft.isFull()) {
                return NONE;
            }
            source.moveTo(end);
            return index;
        }

        boolean takesGreatest(int index, int least) {
            int start = source.place();
            int greatest = source.takeValue();
            if (greatest == NONE) {
                return false;
            }
            if (greatest < least) {
                source.moveTo(start);
                return false;
            }
            return draft.append(RANGE, index, least, greatest);
        }
    }

    /** FORM 0: and, or, not between the terms. */
    private static final class BetweenReader extends Reader {
        BetweenReader(Source source, Indexes indexes, Unknown unknown, Tree draft) {
            super(source, indexes, unknown, draft);
        }

        boolean takesTree(int depth) {
            int leftOfOr = draft.size();
            int leftOfAnd = leftOfOr;
            if (!takesTerm(depth)) {
                return false;
            }
            for (int joints = 0; joints < MOST_SIGNS && source.take(' '); joints++) {
                int sort = takeJoint(leftOfOr, leftOfAnd);
                if (sort == NONE) {
                    return false;
                }
                if (sort != AND) {
                    leftOfAnd = draft.size();
                }
                if (!takesTerm(depth)) {
                    return false;
                }
            }
            return true;
        }

        /** Takes and, or, not and its space, and puts it in front of what stands left of it. */
        private int takeJoint(int leftOfOr, int leftOfAnd) {
            int end = source.rowEnd();
            int sort = source.joiningSort(end);
            if (sort == NONE || !draft.insert(sort == AND ? leftOfAnd : leftOfOr, sort)) {
                return NONE;
            }
            source.moveTo(end);
            return source.take(' ') ? sort : NONE;
        }

        private boolean takesTerm(int depth) {
            if (source.signAt(source.place()) == '(') {
                return depth < MOST_DEPTH && source.take('(') && takesTree(depth + 1) && source.take(')');
            }
            int index = takeName();
            return index != NONE && source.take('=') && takesValues(index);
        }

        private boolean takesValues(int index) {
            int value = source.takeValue();
            if (value == NONE) {
                return false;
            }
            if (source.take('*')) {
                return draft.append(BEGINS, index, value, NONE);
            }
            if (source.take('.')) {
                return source.take('.') && takesGreatest(index, value);
            }
            return draft.append(LEAF, index, value, NONE);
        }
    }

    /** FORM 1: and, or, not in front of their trees. */
    private static final class FrontReader extends Reader {
        FrontReader(Source source, Indexes indexes, Unknown unknown, Tree draft) {
            super(source, indexes, unknown, draft);
        }

        boolean takesTree(int depth) {
            int end = source.rowEnd();
            int sort = source.joiningSort(end);
            if (sort == NONE) {
                return takesLeaf(depth);
            }
            if (!draft.append(sort, NONE, NONE, NONE)) {
                return false;
            }
            source.moveTo(end);
            return takesBranch(depth) && takesBranch(depth);
        }

        private boolean takesBranch(int depth) {
            return source.take(' ') && depth < MOST_DEPTH && source.take('(') && source.take(' ')
                    && takesTree(depth + 1) && source.take(' ') && source.take(')');
        }

        private boolean takesLeaf(int depth) {
            int index = takeName();
            if (index == NONE || !source.take(' ')) {
                return false;
            }
            int value = source.takeValue();
            if (value == NONE) {
                return false;
            }
            // Within brackets the blank may be the one before the closing bracket, which is not the leaf's.
            boolean closes = depth > 0 && source.signAt(source.place() + 1) == ')';
            if (closes || !source.take(' ')) {
                return draft.append(LEAF, index, value, NONE);
            }
            if (source.take('*')) {
                return draft.append(BEGINS, index, value, NONE);
            }
            return takesGreatest(index, value);
        }
    }

    /** The records by number, from 1 on, and whether one meets a tree. */
    private static final class Records {
        private final long[] moments = new long[MOST_RECORDS];
        private final int[] entryCounts = new int[MOST_RECORDS];
        private final int[] entryIndexes = new int[MOST_RECORDS * MOST_ENTRIES];
        private final int[] entryValues = new int[MOST_RECORDS * MOST_ENTRIES];
        private final boolean[] met = new boolean[MOST_NODES];
        private int count = 0;

        int size() {
            return count;
        }

        private boolean has(int number) {
            return number >= 1 && number <= count && number <= MOST_RECORDS;
        }

        long momentOf(int number) {
            return has(number) ? moments[number - 1] : 0;
        }

        int add(long moment) {
            if (count < 0 || count >= MOST_RECORDS || count > 0 && moment < momentOf(count)) {
                return 0;
            }
            moments[count] = moment;
            entryCounts[count] = 0;
            count++;
            return count;
        }

        int addEntry(int number, int index, int value) {
            if (!has(number)) {
                return 0;
            }
            int entries = entryCounts[number - 1];
            if (entries < 0 || entries >= MOST_ENTRIES) {
                return 0;
            }
            int slot = (number - 1) * MOST_ENTRIES + entries;
            entryIndexes[slot] = index;
            entryValues[slot] = value;
            entryCounts[number - 1] = entries + 1;
            return entries + 1;
        }

        /** From the last node to the first, so that both trees of a node are decided before it. */
        boolean isMet(Tree tree, int number) {
            int open = 0;
            for (int i = tree.size() - 1; i >= 0; i--) {
                int sort = tree.sortAt(i);
                if (sort < AND) {
                    if (open >= 0 && open < MOST_NODES) {
                        met[open] = isSimpleMet(tree, i, number);
                        open++;
                    }
                } else if (open >= 2 && open <= MOST_NODES) {
                    met[open - 2] = isJoinedMet(sort, met[open - 1], met[open - 2]);
                    open--;
                }
            }
            return open == 1 && met[0];
        }

        private static boolean isJoinedMet(int sort, boolean first, boolean second) {
            if (sort == AND) {
                return first && second;
            }
            return sort == OR ? first || second : first && !second;
        }

        private boolean isSimpleMet(Tree tree, int i, int number) {
            if (!has(number)) {
                return false;
            }
            int start = (number - 1) * MOST_ENTRIES;
            int entries = Math.min(entryCounts[number - 1], MOST_ENTRIES);
            for (int e = 0; e < entries; e++) {
                if (entryIndexes[start + e] == tree.indexAt(i) && isValueMet(tree, i, entryValues[start + e])) {
                    return true;
                }
            }
            return false;
        }

        private static boolean isValueMet(Tree tree, int i, int value) {
            int least = tree.leastAt(i);
            switch (tree.sortAt(i)) {
                case LEAF:
                    return value == least;
                case RANGE:
                    return value >= least && value <= tree.greatestAt(i);
                default:
                    return isBeginning(least, value);
            }
        }

        private static boolean isBeginning(int beginning, int value) {
            // Cutting digits off ends at 0 for every value, but only 0 itself is written with a 0 in front.
            if (beginning == 0) {
                return value == 0;
            }
            int rest = value;
            for (int cut = 0; cut < MOST_DIGITS && rest > beginning; cut++) {
                rest = rest / 10;
            }
            return rest == beginning;
        }
    }

    /** A saved question, and up to which moment it was looked at. */
    private static final class Question {
        private final Tree tree = new Tree();
        private boolean isKept = false;
        private boolean isLookedAt = false;
        private long latestMoment = 0;

        void keep(Tree newTree) {
            tree.copyFrom(newTree);
            isKept = true;
            isLookedAt = false;
        }

        void lookedUpTo(long moment) {
            isLookedAt = true;
            latestMoment = moment;
        }

        boolean isNew(long moment) {
            return !isLookedAt || moment > latestMoment;
        }
    }

    /** THE HITS: the latest MOMENT first, then by number. */
    private static final class Hits {
        private final int[] numbers = new int[MOST_RECORDS];
        private int count = 0;

        int numberAt(int i) {
            return i >= 0 && i < count && i < MOST_RECORDS ? numbers[i] : 0;
        }

        int gather(Records records, Question question, boolean onlyNew) {
            count = 0;
            for (int number = 1; number <= records.size(); number++) {
                boolean looksAt = !onlyNew || question.isNew(records.momentOf(number));
                if (looksAt && records.isMet(question.tree, number)) {
                    insert(records, number);
                }
            }
            return count;
        }

        private void insert(Records records, int number) {
            if (count < 0 || count >= MOST_RECORDS) {
                return;
            }
            int place = count;
            while (place > 0 && records.momentOf(numbers[place - 1]) < records.momentOf(number)) {
                numbers[place] = numbers[place - 1];
                place--;
            }
            numbers[place] = number;
            count++;
        }
    }
}
