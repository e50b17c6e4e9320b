import java.util.NoSuchElementException;

/** A snake of dancers in a hall, told as a text; the document in ../shared/DOC.md says what each call answers. */
public final class SnakeRow {
    /** There is none; refused. */
    public static final int NONE = -1;

    private static final int LACKING = -2;
    private static final int NO_SUCH = 1;
    private static final int BAD_NUMBER = 2;
    private static final int NO_ROOM = 3;
    private static final int FAULTY = 4;
    private static final int NOT_SO = 5;
    private static final int IS_NONE = 6;

    private static final int TAPE_ROOM = 900;
    private static final int FEED_BYTES = 20;
    private static final int FARTHEST = 40;
    private static final int TRIAL = 12;
    private static final int SEEDS = 65537;
    private static final int MOST_ORDERED = 7;
    // above all who can ever be there, those who join too
    private static final int MOST_TORN = 100;

    private final Sheet tape;
    private final Hall draft;
    private final Hall told;
    private final Reader reader;
    private final Row first;
    private final Row now;
    private final Future future;
    private final Shelf acts;
    private final Shelf marks;
    private final Orders orders;
    private final Sheet far;
    private boolean open;
    private int fault;
    private int place;
    private int trouble;

    public SnakeRow() {
        tape = new Sheet(TAPE_ROOM, 1);
        draft = new Hall();
        told = new Hall();
        reader = new Reader(tape, draft);
        first = new Row();
        now = new Row();
        future = new Future(told);
        acts = new Shelf(10);
        marks = new Shelf(3);
        orders = new Orders();
        far = new Sheet(Hall.CELLS, 1);
        open = false;
        fault = 0;
        place = 0;
        trouble = 0;
    }

    // ---- the hall

    public int feed(int a, int b, int c, int d, int e) {
        if (tape.count() + FEED_BYTES > TAPE_ROOM) {
            return NONE;
        }
        feedOne(a);
        feedOne(b);
        feedOne(c);
        feedOne(d);
        feedOne(e);
        return tape.count();
    }

    public int hall(int n) {
        if (n < 0 || n > tape.count()) {
            return refuse(BAD_NUMBER);
        }
        boolean good = reader.read(n);
        fault = reader.fault;
        place = reader.place;
        tape.cut(0);
        if (!good) {
            return refuse(FAULTY);
        }
        told.copy(draft);
        told.layOut();
        first.enter(told);
        now.copy(first);
        acts.clear();
        marks.clear();
        open = true;
        return answer(now.crew.count());
    }

    public int fault() {
        return fault;
    }

    public int where() {
        return trouble == FAULTY ? place : NONE;
    }

    // ---- now

    public int cell(int x, int y) {
        int cell = cellAt(x, y);
        return cell < 0 ? refuse(NO_SUCH) : answer(told.ground.get(cell, 0));
    }

    public int many() {
        return open ? answer(now.crew.count()) : refuse(NO_SUCH);
    }

    public int dancer(int i, int what) {
        if (!isDancer(i)) {
            return refuse(NO_SUCH);
        }
        switch (what) {
            case 0:
                return answer(now.crew.get(i, Row.NUMBER));
            case 1:
                return answer(now.cellOf(i));
            case 2:
                return answer(now.gapOf(i));
            case 3:
                return answer(now.crew.get(i, Row.PLACE));
            case 4:
                return answer(now.crew.get(i, Row.KIND));
            case 5:
                return answer(now.crew.get(i, Row.LEGS));
            case 6:
                return answer(now.crew.get(i, Row.GRIP));
            default:
                return refuse(NO_SUCH);
        }
    }

    public int stands(int x, int y) {
        int cell = cellAt(x, y);
        if (cell < 0) {
            return refuse(NO_SUCH);
        }
        for (int i = 0; i < now.crew.count(); i++) {
            if (now.cellOf(i) == cell) {
                return answer(now.crew.get(i, Row.NUMBER));
            }
        }
        return answer(LACKING);
    }

    public int way(int i) {
        boolean there = open && i >= 0 && i < now.path.count();
        return there ? answer(now.path.get(i, 0)) : refuse(NO_SUCH);
    }

    public int length() {
        return open ? answer(now.path.count()) : refuse(NO_SUCH);
    }

    public int corners() {
        if (!open) {
            return refuse(NO_SUCH);
        }
        int corners = 0;
        int end = now.crew.get(0, Row.PLACE);
        for (int i = now.crew.get(now.crew.count() - 1, Row.PLACE) + 1; i < end; i++) {
            corners += now.turnsAt(i) ? 1 : 0;
        }
        return answer(corners);
    }

    public int sits(int table) {
        return isTable(table) ? answer(now.seats.get(table, 0)) : refuse(NO_SUCH);
    }

    public int over() {
        return open ? answer(now.closed) : refuse(NO_SUCH);
    }

    // ---- what will be

    public int manyIn(int t) {
        return foresee(t) ? answer(future.row.crew.count()) : NONE;
    }

    public int at(int dancer, int t) {
        if (dancer < 0) {
            return refuse(NO_SUCH);
        }
        if (!foresee(t)) {
            return NONE;
        }
        int i = future.row.find(dancer);
        return answer(i < 0 ? LACKING : future.row.cellOf(i));
    }

    public int ran(int dancer, int t) {
        if (dancer < 0) {
            return refuse(NO_SUCH);
        }
        if (!foresee(t)) {
            return NONE;
        }
        boolean there = future.row.find(dancer) >= 0;
        return answer(there ? future.went.get(dancer, 0) : 0);
    }

    public int runner(int t) {
        if (!foresee(t)) {
            return NONE;
        }
        int best = 0;
        for (int i = 1; i < future.row.crew.count(); i++) {
            if (future.wentOf(i) > future.wentOf(best)) {
                best = i;
            }
        }
        return answer(future.row.crew.get(best, Row.NUMBER));
    }

    public int widest(int t) {
        if (!foresee(t)) {
            return NONE;
        }
        int widest = LACKING;
        for (int i = 1; i < future.row.crew.count(); i++) {
            widest = Math.max(widest, future.row.gapOf(i));
        }
        return answer(widest);
    }

    public int torn(int t) {
        return foresee(t) ? answer(future.tornAt) : NONE;
    }

    public int tornBy(int t) {
        if (!foresee(t)) {
            return NONE;
        }
        return future.tornAt < 0 ? refuse(IS_NONE) : answer(future.tornWho);
    }

    public int joined(int t) {
        return foresee(t) ? answer(future.joins) : NONE;
    }

    public int ring(int t) {
        return foresee(t) ? answer(future.ringAt) : NONE;
    }

    public int jolt(int k, int i) {
        if (i < 1 || !isDancer(i)) {
            return refuse(NO_SUCH);
        }
        if (k < 1 || k > 4) {
            return refuse(BAD_NUMBER);
        }
        future.joltFor(now, k, TRIAL);
        return answer(joltOf(i));
    }

    public int grows(int k, int i) {
        if (i < 1 || !isDancer(i) || !isDancer(i + 1)) {
            return refuse(NO_SUCH);
        }
        if (k < 1 || k > 4) {
            return refuse(BAD_NUMBER);
        }
        future.joltFor(now, k, TRIAL);
        int here = joltOf(i);
        int behind = joltOf(i + 1);
        if (here == LACKING || behind == LACKING) {
            return answer(LACKING);
        }
        return answer(Integer.compare(behind, here));
    }

    // ---- what is best

    public int holds() {
        if (!open) {
            return refuse(NO_SUCH);
        }
        for (int pace = 3; pace >= 1; pace--) {
            future.begin(now);
            future.pace = pace;
            future.run(TRIAL);
            if (future.tornAt < 0) {
                return answer(pace);
            }
        }
        return answer(LACKING);
    }

    public int order() {
        if (!open) {
            return refuse(NO_SUCH);
        }
        if (now.crew.count() > MOST_ORDERED) {
            return refuse(NO_ROOM);
        }
        return answer(bestOrder());
    }

    public int orderAt(int i) {
        if (i < 1 || !isDancer(i)) {
            return refuse(NO_SUCH);
        }
        if (now.crew.count() > MOST_ORDERED) {
            return refuse(NO_ROOM);
        }
        bestOrder();
        return answer(orders.best.get(i, 0));
    }

    public int leader(int t) {
        if (!foresee(t)) {
            return NONE;
        }
        int best = 0;
        int most = -1;
        for (int guide = Row.AHEAD; guide <= Row.HOME; guide++) {
            if (guide == Row.LOT) {
                continue;
            }
            future.begin(now);
            future.row.guide = guide;
            future.run(t);
            if (future.row.crew.count() > most) {
                most = future.row.crew.count();
                best = guide;
            }
        }
        return answer(best);
    }

    public int plan(int d) {
        int best = bestPlan(d);
        if (best < 0) {
            return NONE;
        }
        future.beginPlan(now, d, best);
        future.run(d);
        return answer(future.row.crew.count());
    }

    public int planAt(int d, int i) {
        int best = bestPlan(d);
        if (best < 0) {
            return NONE;
        }
        return i < 0 || i >= d ? refuse(NO_SUCH) : answer(future.sideOf(d, best, i));
    }

    public int mean(int seed, int n, int t) {
        if (!open) {
            return refuse(NO_SUCH);
        }
        if (seed < 0 || seed >= SEEDS || n < 1 || n > 20 || t < 0 || t > FARTHEST) {
            return refuse(BAD_NUMBER);
        }
        int sum = 0;
        for (int i = 0; i < n; i++) {
            future.begin(now);
            future.row.seed = (seed + i) % SEEDS;
            future.run(t);
            sum += future.row.crew.count();
        }
        return answer(sum);
    }

    // ---- the band, the film

    public int late(int x, int y) {
        int cell = cellAt(x, y);
        boolean heard = cell >= 0 && now.music >= 0;
        return heard ? answer(told.delay(now.music, cell)) : refuse(NO_SUCH);
    }

    public int kicks() {
        if (!open) {
            return refuse(NO_SUCH);
        }
        return answer(told.pace(now.beat) == 0 ? 1 : 0);
    }

    public int inTime() {
        if (!open) {
            return refuse(NO_SUCH);
        }
        return now.music < 0 ? refuse(IS_NONE) : answer(inTimeFrom(now.music));
    }

    public int bestBand() {
        if (!open) {
            return refuse(NO_SUCH);
        }
        if (now.music < 0) {
            return refuse(IS_NONE);
        }
        int best = 0;
        int most = -1;
        for (int cell = 0; cell < told.ground.count(); cell++) {
            int heard = told.ground.get(cell, 0) == Hall.WALL ? -1 : inTimeFrom(cell);
            if (heard > most) {
                most = heard;
                best = cell;
            }
        }
        return answer(best);
    }

    public int out() {
        if (!open) {
            return refuse(NO_SUCH);
        }
        if (told.home < 0) {
            return refuse(IS_NONE);
        }
        now.shutCells(told.ground.count(), far);
        told.spread(now.cellOf(0), far);
        int steps = far.get(told.home, 0);
        return answer(steps < 0 ? LACKING : steps);
    }

    public int fits() {
        if (!open) {
            return refuse(NO_SUCH);
        }
        int bits = 0;
        for (int guide = Row.AHEAD; guide <= Row.HOME; guide++) {
            future.begin(first);
            future.row.guide = guide;
            bits |= future.shows(FARTHEST) ? 1 << guide : 0;
        }
        return answer(bits);
    }

    // ---- acts

    public int dance(int n) {
        if (!open) {
            return refuse(NO_SUCH);
        }
        if (n < 1 || n > 20) {
            return refuse(BAD_NUMBER);
        }
        if (now.closed != 0) {
            return refuse(NOT_SO);
        }
        acts.push(now);
        future.begin(now);
        future.run(n);
        now.copy(future.row);
        return answer(now.crew.count());
    }

    public boolean lead(int leader) {
        if (!open || leader < Row.AHEAD || leader > Row.HOME) {
            return deny(NO_SUCH);
        }
        if (now.guide == leader) {
            return deny(NOT_SO);
        }
        acts.push(now);
        now.guide = leader;
        return grant();
    }

    public boolean change(int i, int j) {
        if (i < 1 || j < 1 || i == j || !isDancer(i) || !isDancer(j)) {
            return deny(NO_SUCH);
        }
        acts.push(now);
        // each is read from a row in which neither has moved yet
        future.row.copy(now);
        now.takeWho(i, future.row, j);
        now.takeWho(j, future.row, i);
        return grant();
    }

    public boolean letGo(int i) {
        if (!isDancer(i)) {
            return deny(NO_SUCH);
        }
        if (i == 0) {
            return deny(NOT_SO);
        }
        acts.push(now);
        now.crew.drop(i);
        return grant();
    }

    public boolean band(int x, int y) {
        int cell = cellAt(x, y);
        if (cell < 0 || told.ground.get(cell, 0) == Hall.WALL) {
            return deny(NO_SUCH);
        }
        if (now.music < 0) {
            return deny(IS_NONE);
        }
        if (now.music == cell) {
            return deny(NOT_SO);
        }
        acts.push(now);
        now.music = cell;
        return grant();
    }

    public boolean seed(int v) {
        if (!open) {
            return deny(NO_SUCH);
        }
        if (v < 0 || v >= SEEDS) {
            return deny(BAD_NUMBER);
        }
        now.seed = v;
        return grant();
    }

    public boolean undo() {
        return acts.pop(now) ? grant() : deny(IS_NONE);
    }

    public int mark() {
        if (!open) {
            return refuse(NO_SUCH);
        }
        if (marks.isFull()) {
            return refuse(NO_ROOM);
        }
        marks.push(now);
        return answer(marks.count() - 1);
    }

    public boolean back(int mark) {
        if (!marks.show(mark, now)) {
            return deny(NO_SUCH);
        }
        acts.clear();
        return grant();
    }

    // ---- what is told

    public int table(int t, int what) {
        boolean there = isTable(t) && what >= Hall.SPOT && what <= Hall.EAGER;
        return there ? answer(told.tables.get(t, what)) : refuse(NO_SUCH);
    }

    public int steps(int i) {
        boolean there = open && i >= 0 && i < told.paces.count();
        return there ? answer(told.paces.get(i, 0)) : refuse(NO_SUCH);
    }

    public int led(int i) throws NoSuchElementException {
        int left = i;
        for (int k = 0; k < now.crew.count(); k++) {
            if (told.ground.get(now.cellOf(k), 0) != Hall.STAIRS) {
                continue;
            }
            if (left == 0) {
                return now.crew.get(k, Row.NUMBER);
            }
            left--;
        }
        throw new NoSuchElementException("nobody such stands on stairs");
    }

    public int size(int what) {
        if (what == 15) {
            return tape.count();
        }
        if (what < 0 || what > 15) {
            return NONE;
        }
        if (!open) {
            return 0;
        }
        return what < 7 ? sizeTold(what) : sizeNow(what);
    }

    public int trouble() {
        return trouble;
    }

    // ---- what the calls share

    private int answer(int value) {
        trouble = 0;
        return value;
    }

    private int refuse(int why) {
        trouble = why;
        return NONE;
    }

    private boolean grant() {
        trouble = 0;
        return true;
    }

    private boolean deny(int why) {
        trouble = why;
        return false;
    }

    private void feedOne(int word) {
        for (int shift = 24; shift >= 0; shift -= 8) {
            tape.push((word >>> shift) & 255);
        }
    }

    private int cellAt(int x, int y) {
        return open ? told.cellAt(x, y) : -1;
    }

    private boolean isDancer(int i) {
        return open && i >= 0 && i < now.crew.count();
    }

    private boolean isTable(int t) {
        return open && t >= 0 && t < told.tables.count();
    }

    private boolean foresee(int t) {
        if (!open || t < 0 || t > FARTHEST) {
            refuse(open ? BAD_NUMBER : NO_SUCH);
            return false;
        }
        future.begin(now);
        future.run(t);
        return true;
    }

    private int joltOf(int i) {
        int number = now.crew.get(i, Row.NUMBER);
        return future.row.find(number) < 0 ? LACKING : future.wide.get(number, 0);
    }

    private int bestOrder() {
        int least = MOST_TORN;
        orders.begin(now.crew.count());
        for (int tries = 0; tries < Orders.MOST; tries++) {
            future.begin(now);
            for (int i = 1; i < now.crew.count(); i++) {
                future.row.takeWho(i, now, orders.trial.get(i, 0));
            }
            future.run(TRIAL);
            if (future.tornOut < least) {
                least = future.tornOut;
                orders.best.copy(orders.trial);
            }
            // none can be fewer than none, and a later one of like worth is not asked for
            if (least == 0 || !orders.next()) {
                break;
            }
        }
        return least;
    }

    private int bestPlan(int d) {
        if (!open || d < 1 || d > Future.LONGEST_PLAN) {
            refuse(open ? BAD_NUMBER : NO_SUCH);
            return -1;
        }
        int best = 0;
        int most = -1;
        for (int code = 0; code < 1 << (2 * d); code++) {
            future.beginPlan(now, d, code);
            future.run(d);
            if (future.row.crew.count() > most) {
                most = future.row.crew.count();
                best = code;
            }
        }
        return best;
    }

    private int inTimeFrom(int music) {
        int count = told.paces.count();
        if (count < 1) {
            return 0;
        }
        int heard = 0;
        for (int i = 0; i < now.crew.count(); i++) {
            heard += told.delay(music, now.cellOf(i)) % count == 0 ? 1 : 0;
        }
        return heard;
    }

    private int sizeTold(int what) {
        switch (what) {
            case 0:
                return told.wide;
            case 1:
                return told.high;
            case 2:
                return told.round ? 1 : 0;
            case 3:
                return told.behind ? 1 : 0;
            case 4:
                return told.tables.count();
            case 5:
                return told.paces.count();
            default:
                return told.frames.count();
        }
    }

    private int sizeNow(int what) {
        switch (what) {
            case 7:
                return now.guide;
            case 8:
                return now.look;
            case 9:
                return now.beat;
            case 10:
                return now.seed;
            case 11:
                return now.music;
            case 12:
                return told.home;
            case 13:
                return acts.count();
            default:
                return marks.count();
        }
    }

    /** Lines of numbers in one array, made once: a line that isn't there reads as 0, one without room is let fall. */
    private static final class Sheet {
        private final int[] numbers;
        private final int columns;
        private final int room;
        private int lines;

        Sheet(int room, int columns) {
            this.room = room < 1 ? 1 : room;
            this.columns = columns < 1 ? 1 : columns;
            numbers = new int[this.room * this.columns];
            lines = 0;
        }

        int count() {
            return lines;
        }

        int get(int line, int column) {
            boolean there = line >= 0 && line < lines && column >= 0 && column < columns;
            int spot = line * columns + column;
            return there && spot >= 0 && spot < numbers.length ? numbers[spot] : 0;
        }

        void put(int line, int column, int value) {
            boolean there = line >= 0 && line < lines && column >= 0 && column < columns;
            int spot = line * columns + column;
            if (there && spot >= 0 && spot < numbers.length) {
                numbers[spot] = value;
            }
        }

        void push(int value) {
            insert(lines);
            put(lines - 1, 0, value);
        }

        void insert(int line) {
            if (line < 0 || line > lines || lines >= room) {
                return;
            }
            for (int i = (lines + 1) * columns - 1; i >= (line + 1) * columns; i--) {
                shift(i, i - columns);
            }
            lines++;
            for (int column = 0; column < columns; column++) {
                put(line, column, 0);
            }
        }

        void drop(int line) {
            if (line < 0 || line >= lines) {
                return;
            }
            lines--;
            for (int i = line * columns; i < lines * columns; i++) {
                shift(i, i + columns);
            }
        }

        void cut(int count) {
            lines = count < 0 ? 0 : Math.min(count, lines);
        }

        void blank(int count, int value) {
            lines = count < 0 ? 0 : Math.min(count, room);
            for (int i = 0; i < lines * columns && i < numbers.length; i++) {
                numbers[i] = value;
            }
        }

        void copy(Sheet from) {
            if (from == null || from.columns != columns) {
                return;
            }
            lines = Math.min(from.lines, room);
            int used = Math.min(lines * columns, Math.min(numbers.length, from.numbers.length));
            System.arraycopy(from.numbers, 0, numbers, 0, used);
        }

        private void shift(int to, int from) {
            if (to >= 0 && to < numbers.length && from >= 0 && from < numbers.length) {
                numbers[to] = numbers[from];
            }
        }
    }

    /** What a text told; nothing in it changes by dancing. */
    private static final class Hall {
        private static final int CELLS = 48;
        private static final int FLOOR = 0;
        private static final int STAIRS = 1;
        private static final int WALL = 2;
        private static final int TABLE = 3;
        // columns of a table
        private static final int SPOT = 0;
        private static final int KIND = 1;
        private static final int LEGS = 2;
        private static final int GRIP = 3;
        private static final int EAGER = 4;
        private static final int SEATS = 5;

        private final Sheet ground = new Sheet(CELLS, 1);
        private final Sheet paces = new Sheet(8, 1);
        private final Sheet sides = new Sheet(12, 1);
        private final Sheet tables = new Sheet(4, 6);
        private final Sheet dancers = new Sheet(8, 3);
        private final Sheet frames = new Sheet(8, 3);
        private final Sheet near = new Sheet(CELLS, 4);
        private final Sheet homeward = new Sheet(CELLS, 1);
        private int wide;
        private int high;
        private boolean round;
        private boolean behind;
        private int music;
        private int sound;
        private int home;
        private int guide;
        private int front;
        private int look;

        Hall() {
            clear();
        }

        void clear() {
            ground.cut(0);
            paces.cut(0);
            sides.cut(0);
            tables.cut(0);
            dancers.cut(0);
            frames.cut(0);
            wide = 0;
            high = 0;
            round = false;
            behind = false;
            music = LACKING;
            sound = 1;
            home = LACKING;
            guide = NONE;
            front = NONE;
            look = 0;
        }

        void copy(Hall from) {
            if (from == null) {
                return;
            }
            ground.copy(from.ground);
            paces.copy(from.paces);
            sides.copy(from.sides);
            tables.copy(from.tables);
            dancers.copy(from.dancers);
            frames.copy(from.frames);
            wide = from.wide;
            high = from.high;
            round = from.round;
            behind = from.behind;
            music = from.music;
            sound = from.sound;
            home = from.home;
            guide = from.guide;
            front = from.front;
            look = from.look;
        }

        boolean hasRows() {
            return wide > 0 && ground.count() >= wide * high;
        }

        int cellAt(int x, int y) {
            return x >= 0 && x < wide && y >= 0 && y < high ? y * wide + x : -1;
        }

        int beside(int cell, int side) {
            if (wide < 1 || cell < 0) {
                return -1;
            }
            int x = cell % wide;
            int y = cell / wide;
            switch (side) {
                case 0:
                    return cellAt(x, y - 1);
                case 1:
                    return cellAt(x + 1, y);
                case 2:
                    return cellAt(x, y + 1);
                default:
                    return cellAt(x - 1, y);
            }
        }

        boolean isOpen(int cell) {
            return cell >= 0 && cell < ground.count() && ground.get(cell, 0) <= STAIRS;
        }

        /** Tables and walls never move, so who can go where, and how far home is, is worked out once. */
        void layOut() {
            near.blank(ground.count(), -1);
            for (int cell = 0; cell < ground.count(); cell++) {
                for (int side = 0; side < 4; side++) {
                    int next = beside(cell, side);
                    near.put(cell, side, isOpen(next) ? next : -1);
                }
            }
            homeward.blank(ground.count(), 0);
            spread(home, homeward);
        }

        /** Fills far with the CELLS to go from one; what isn't 0 in it beforehand is shut; -1 where no way leads. */
        void spread(int from, Sheet far) {
            for (int cell = 0; cell < ground.count(); cell++) {
                far.put(cell, 0, far.get(cell, 0) != 0 ? -2 : -1);
            }
            if (!isOpen(from)) {
                return;
            }
            far.put(from, 0, 0);
            for (int ring = 0; ring < ground.count(); ring++) {
                for (int cell = 0; cell < ground.count(); cell++) {
                    if (far.get(cell, 0) == ring) {
                        reach(cell, ring + 1, far);
                    }
                }
            }
        }

        private void reach(int cell, int ring, Sheet far) {
            for (int side = 0; side < 4; side++) {
                int next = near.get(cell, side);
                if (next >= 0 && far.get(next, 0) == -1) {
                    far.put(next, 0, ring);
                }
            }
        }

        int delay(int from, int cell) {
            if (wide < 1 || sound < 1 || from < 0 || cell < 0) {
                return 0;
            }
            int x = Math.abs(from % wide - cell % wide);
            int y = Math.abs(from / wide - cell / wide);
            return (x + y) / sound;
        }

        int pace(int beat) {
            int count = paces.count();
            return count < 1 || beat < 0 ? 0 : paces.get(beat % count, 0);
        }
    }

    /** The row of dancers at one time, with all that beats and acts change. */
    private static final class Row {
        private static final int AHEAD = 0;
        private static final int RIGHT = 1;
        private static final int LEFT = 2;
        private static final int LOT = 3;
        private static final int HOME = 4;
        private static final int TOLD = 5;
        // columns of a dancer
        private static final int NUMBER = 0;
        private static final int PLACE = 1;
        private static final int KIND = 2;
        private static final int LEGS = 3;
        private static final int GRIP = 4;
        private static final int MOST = 16;
        private static final int AUNT = 1;
        private static final int CHILD = 2;
        private static final int HEAVY = 3;

        private final Sheet path = new Sheet(208, 1);
        private final Sheet crew = new Sheet(MOST, 5);
        private final Sheet seats = new Sheet(4, 1);
        private int beat;
        private int seed;
        private int guide;
        private int look;
        private int next;
        private int fresh;
        private int closed;
        private int music;

        Row() {
            music = LACKING;
        }

        void copy(Row from) {
            if (from == null) {
                return;
            }
            path.copy(from.path);
            crew.copy(from.crew);
            seats.copy(from.seats);
            beat = from.beat;
            seed = from.seed;
            guide = from.guide;
            look = from.look;
            next = from.next;
            fresh = from.fresh;
            closed = from.closed;
            music = from.music;
        }

        void enter(Hall hall) {
            int count = hall.dancers.count();
            path.cut(0);
            crew.cut(0);
            seats.cut(0);
            for (int i = 0; i < count; i++) {
                path.push(hall.front);
                crew.push(i);
            }
            int cell = hall.front;
            for (int i = 0; i < count; i++) {
                int place = count - 1 - i;
                path.put(place, 0, cell);
                cell = hall.beside(cell, (hall.look + 2) % 4);
                crew.put(i, PLACE, place);
                crew.put(i, KIND, hall.dancers.get(i, 0));
                crew.put(i, LEGS, hall.dancers.get(i, 1));
                crew.put(i, GRIP, hall.dancers.get(i, 2));
            }
            for (int t = 0; t < hall.tables.count(); t++) {
                seats.push(hall.tables.get(t, Hall.SEATS));
            }
            beat = 0;
            seed = 0;
            guide = hall.guide;
            look = hall.look;
            next = 0;
            fresh = count;
            closed = 0;
            music = hall.music;
        }

        int cellOf(int i) {
            return path.get(crew.get(i, PLACE), 0);
        }

        int gapOf(int i) {
            return i < 1 ? LACKING : crew.get(i - 1, PLACE) - crew.get(i, PLACE) - 1;
        }

        int find(int number) {
            for (int i = 0; i < crew.count(); i++) {
                if (crew.get(i, NUMBER) == number) {
                    return i;
                }
            }
            return -1;
        }

        boolean turnsAt(int place) {
            if (place < 1 || place + 1 >= path.count()) {
                return false;
            }
            int here = path.get(place, 0);
            return here - path.get(place - 1, 0) != path.get(place + 1, 0) - here;
        }

        int costFrom(int place, int kind) {
            if (kind == CHILD || !turnsAt(place)) {
                return 1;
            }
            return kind == HEAVY ? 3 : 2;
        }

        /** The place stays; who stands there comes from another line. */
        void takeWho(int i, Row from, int line) {
            if (from == null) {
                return;
            }
            crew.put(i, NUMBER, from.crew.get(line, NUMBER));
            crew.put(i, KIND, from.crew.get(line, KIND));
            crew.put(i, LEGS, from.crew.get(line, LEGS));
            crew.put(i, GRIP, from.crew.get(line, GRIP));
        }

        void shutCells(int count, Sheet shut) {
            shut.blank(count, 0);
            for (int i = 1; i < crew.count(); i++) {
                shut.put(cellOf(i), 0, 1);
            }
        }

        int draw() {
            seed = (75 * seed + 74) % SEEDS;
            return seed;
        }

        /** Whoever joins comes at the end, or, with the law so, right behind the one who asked. */
        void join(Hall hall, int table, int asker) {
            int last = crew.count() - 1;
            boolean inside = hall.behind && asker < last;
            int line = inside ? asker + 1 : last + 1;
            int place = crew.get(inside ? line : last, PLACE);
            crew.insert(line);
            crew.put(line, NUMBER, fresh);
            crew.put(line, PLACE, inside || place < 1 ? place : place - 1);
            crew.put(line, KIND, hall.tables.get(table, Hall.KIND));
            crew.put(line, LEGS, hall.tables.get(table, Hall.LEGS));
            crew.put(line, GRIP, hall.tables.get(table, Hall.GRIP));
            fresh++;
        }
    }

    /** A row that goes on beat by beat, with what is counted on the way. */
    private static final class Future {
        private static final int LONGEST_PLAN = 5;
        private static final int WAY_END = 200;
        private static final int BY_RING = 1;
        private static final int BY_WAY = 2;
        // eight told and four tables of nine
        private static final int NUMBERS = 44;
        // four turns for each of ahead, right, left, in the order in which they are tried
        private static final int[] TURNS = {0, 1, 3, 2, 1, 0, 3, 2, 3, 0, 1, 2};

        private final Hall hall;
        private final Row row = new Row();
        private final Sheet went = new Sheet(NUMBERS, 1);
        private final Sheet wide = new Sheet(NUMBERS, 1);
        private final Sheet sides = new Sheet(12, 1);
        private final Sheet shut = new Sheet(Hall.CELLS, 1);
        private final Sheet around = new Sheet(4, 1);
        private int pace;
        private int still;
        private int beats;
        private int tornAt;
        private int tornWho;
        private int tornOut;
        private int joins;
        private int ringAt;

        Future(Hall hall) {
            this.hall = hall;
        }

        void begin(Row from) {
            row.copy(from);
            went.blank(NUMBERS, 0);
            sides.copy(hall.sides);
            pace = NONE;
            still = 0;
            beats = 0;
            tornAt = LACKING;
            tornWho = NONE;
            tornOut = 0;
            joins = 0;
            ringAt = LACKING;
        }

        void run(int t) {
            for (int i = 0; i < t; i++) {
                beats++;
                if (row.closed != 0) {
                    continue;
                }
                int due = stepsDue();
                row.beat++;
                if (goAhead(due)) {
                    row.closed = BY_RING;
                    ringAt = beats;
                    continue;
                }
                comeAfter();
                tear();
                leaveOnStairs();
                askAround();
                if (row.path.count() > WAY_END) {
                    row.closed = BY_WAY;
                }
            }
        }

        void beginPlan(Row from, int d, int code) {
            begin(from);
            sides.cut(0);
            for (int i = 0; i < d; i++) {
                sides.push(sideOf(d, code, i));
            }
            row.guide = Row.TOLD;
            row.next = 0;
        }

        /** A plan is a number of d digits from 0 to 3, the first one highest, so counting up keeps the order of sides. */
        int sideOf(int d, int code, int i) {
            return i < 0 || i >= d ? 0 : (code >> (2 * (d - 1 - i))) & 3;
        }

        void joltFor(Row from, int standing, int more) {
            begin(from);
            still = standing;
            wide.blank(NUMBERS, LACKING);
            for (int i = 0; i < standing + more; i++) {
                run(1);
                measure();
            }
        }

        boolean shows(int last) {
            for (int i = 0; i <= last; i++) {
                for (int f = 0; f < hall.frames.count(); f++) {
                    if (hall.frames.get(f, 0) == i && !shown(f)) {
                        return false;
                    }
                }
                run(1);
            }
            return true;
        }

        int wentOf(int i) {
            return went.get(row.crew.get(i, Row.NUMBER), 0);
        }

        private boolean shown(int frame) {
            int i = row.find(hall.frames.get(frame, 1));
            return i >= 0 && row.cellOf(i) == hall.frames.get(frame, 2);
        }

        private void measure() {
            for (int i = 1; i < row.crew.count(); i++) {
                int number = row.crew.get(i, Row.NUMBER);
                wide.put(number, 0, Math.max(wide.get(number, 0), row.gapOf(i)));
            }
        }

        private int stepsDue() {
            if (still > 0) {
                still--;
                return 0;
            }
            return pace >= 0 ? pace : hall.pace(row.beat);
        }

        /** True if the row closes to a ring by it: then nothing more comes of the beat. */
        private boolean goAhead(int due) {
            row.shutCells(hall.ground.count(), shut);
            for (int i = 0; i < due; i++) {
                lookAround();
                int side = sidePicked();
                int cell = side < 0 ? -1 : around.get(side, 0);
                if (cell < 0) {
                    continue;
                }
                row.path.push(cell);
                row.crew.put(0, Row.PLACE, row.path.count() - 1);
                row.look = side;
                tally(0, 1);
                if (hall.round && shut.get(cell, 0) != 0) {
                    return true;
                }
            }
            return false;
        }

        private void lookAround() {
            int count = row.crew.count();
            int front = row.cellOf(0);
            int end = count >= 3 ? row.cellOf(count - 1) : -1;
            around.blank(4, -1);
            for (int side = 0; side < 4; side++) {
                int cell = hall.near.get(front, side);
                boolean taken = hall.round && cell != end && shut.get(cell, 0) != 0;
                around.put(side, 0, taken ? -1 : cell);
            }
        }

        private int sidePicked() {
            switch (row.guide) {
                case Row.LOT:
                    return sideByLot();
                case Row.HOME:
                    return sideHome();
                case Row.TOLD:
                    return sideTold();
                default:
                    return sideByHand();
            }
        }

        private int sideByHand() {
            for (int i = 0; i < 4; i++) {
                int spot = row.guide * 4 + i;
                int turn = spot >= 0 && spot < TURNS.length ? TURNS[spot] : 0;
                int side = (row.look + turn) % 4;
                if (around.get(side, 0) >= 0) {
                    return side;
                }
            }
            return -1;
        }

        private int sideByLot() {
            int sides = 0;
            for (int side = 0; side < 4; side++) {
                sides += around.get(side, 0) >= 0 ? 1 : 0;
            }
            if (sides < 1) {
                return -1;
            }
            int left = row.draw() % sides;
            for (int side = 0; side < 4; side++) {
                if (around.get(side, 0) < 0) {
                    continue;
                }
                if (left == 0) {
                    return side;
                }
                left--;
            }
            return -1;
        }

        private int sideHome() {
            int best = -1;
            int least = Hall.CELLS;
            // the front is always at the WAY's end
            if (row.path.get(row.path.count() - 1, 0) == hall.home) {
                return -1;
            }
            for (int side = 0; side < 4; side++) {
                int cell = around.get(side, 0);
                int steps = cell < 0 ? -1 : hall.homeward.get(cell, 0);
                if (steps >= 0 && steps < least) {
                    least = steps;
                    best = side;
                }
            }
            return best;
        }

        private int sideTold() {
            if (row.next >= sides.count()) {
                return -1;
            }
            row.next++;
            return sides.get(row.next - 1, 0);
        }

        private void tally(int i, int cells) {
            int number = row.crew.get(i, Row.NUMBER);
            went.put(number, 0, went.get(number, 0) + cells);
        }

        private void comeAfter() {
            for (int i = 1; i < row.crew.count(); i++) {
                int from = row.crew.get(i, Row.PLACE);
                int to = row.crew.get(i - 1, Row.PLACE) - 1;
                int kind = row.crew.get(i, Row.KIND);
                int legs = row.crew.get(i, Row.LEGS);
                int place = from;
                for (; place < to; place++) {
                    int cost = row.costFrom(place, kind);
                    if (cost > legs) {
                        break;
                    }
                    legs -= cost;
                }
                row.crew.put(i, Row.PLACE, place);
                tally(i, place - from);
            }
        }

        private void tear() {
            int count = row.crew.count();
            for (int i = 1; i < count; i++) {
                if (row.gapOf(i) > row.crew.get(i, Row.GRIP)) {
                    if (tornAt < 0) {
                        tornAt = beats - 1;
                        tornWho = row.crew.get(i, Row.NUMBER);
                    }
                    tornOut += count - i;
                    row.crew.cut(i);
                    return;
                }
            }
        }

        private void leaveOnStairs() {
            for (int i = row.crew.count() - 1; i >= 1; i--) {
                boolean aunt = row.crew.get(i, Row.KIND) == Row.AUNT;
                if (aunt && hall.ground.get(row.cellOf(i), 0) == Hall.STAIRS) {
                    row.crew.drop(i);
                }
            }
        }

        private void askAround() {
            for (int table = 0; table < hall.tables.count(); table++) {
                int left = row.seats.get(table, 0);
                int asker = askerAt(hall.tables.get(table, Hall.SPOT));
                if (left < 1 || asker < 0 || row.crew.count() >= Row.MOST) {
                    continue;
                }
                // the DRAW is made by asking, whether one joins or not
                if (row.draw() % 100 < hall.tables.get(table, Hall.EAGER)) {
                    row.seats.put(table, 0, left - 1);
                    row.join(hall, table, asker);
                    joins++;
                }
            }
        }

        private int askerAt(int spot) {
            for (int i = 0; i < row.crew.count(); i++) {
                int cell = row.cellOf(i);
                for (int side = 0; side < 4; side++) {
                    if (hall.near.get(spot, side) == cell) {
                        return i;
                    }
                }
            }
            return -1;
        }
    }

    /** Rows kept: the latest on top; one too many pushes out the oldest. */
    private static final class Shelf {
        private final Row[] rows;
        private int bottom;
        private int kept;

        Shelf(int room) {
            rows = new Row[room < 1 ? 1 : room];
            for (int i = 0; i < rows.length; i++) {
                rows[i] = new Row();
            }
            bottom = 0;
            kept = 0;
        }

        int count() {
            return kept;
        }

        boolean isFull() {
            return kept >= rows.length;
        }

        void clear() {
            kept = 0;
        }

        void push(Row row) {
            if (isFull()) {
                bottom++;
                kept--;
            }
            Row top = rowAt(kept);
            if (top != null) {
                top.copy(row);
                kept++;
            }
        }

        boolean pop(Row into) {
            if (!show(kept - 1, into)) {
                return false;
            }
            kept--;
            return true;
        }

        boolean show(int i, Row into) {
            Row row = i < 0 || i >= kept ? null : rowAt(i);
            if (row == null || into == null) {
                return false;
            }
            into.copy(row);
            return true;
        }

        private Row rowAt(int i) {
            if (rows.length < 1) {
                return null;
            }
            int spot = Math.floorMod(bottom + i, rows.length);
            return spot < rows.length ? rows[spot] : null;
        }
    }

    /** The orders of all behind the front, one after the other, by places. */
    private static final class Orders {
        // six behind the front
        private static final int MOST = 720;

        private final Sheet trial = new Sheet(8, 1);
        private final Sheet best = new Sheet(8, 1);

        void begin(int count) {
            trial.cut(0);
            for (int i = 0; i < count; i++) {
                trial.push(i);
            }
            best.copy(trial);
        }

        boolean next() {
            int last = trial.count() - 1;
            int rise = last - 1;
            for (; rise >= 1 && trial.get(rise, 0) > trial.get(rise + 1, 0); rise--) {
                // what falls toward the end has no later order
            }
            if (rise < 1) {
                return false;
            }
            int other = last;
            for (; other > rise && trial.get(other, 0) < trial.get(rise, 0); other--) {
                // the last above it is the least above it, as the rest falls
            }
            swap(rise, other);
            int high = last;
            for (int low = rise + 1; low < high; low++) {
                swap(low, high);
                high--;
            }
            return true;
        }

        private void swap(int i, int j) {
            int kept = trial.get(i, 0);
            trial.put(i, 0, trial.get(j, 0));
            trial.put(j, 0, kept);
        }
    }

    /** Reads a text from the left into a hall and stops at the first fault. */
    private static final class Reader {
        // the sorts of TOKENS; what begins none is BAD
        private static final int BAD = 0;
        private static final int WORD = 1;
        private static final int WHOLE = 2;
        private static final int SEMICOLON = 3;
        private static final int COMMA = 4;
        private static final int END = 5;
        // the FAULTS
        private static final int FORM = 1;
        private static final int AGAIN = 3;
        private static final int BOUNDS = 4;
        private static final int MANY = 5;
        private static final int LACKS = 6;
        private static final int WRONG = 7;

        private static final int LETTERS = 8;
        private static final int DIGITS = 3;
        private static final String LINES = "hall row band home steps leads table dancer snake frame";
        private static final String KINDS = "plain aunt child heavy";
        private static final String SIDES = "north east south west";

        private final Sheet tape;
        private final Hall hall;
        // the first byte of each table's NAME, and the one behind its last
        private final Sheet names = new Sheet(4, 2);
        private int limit;
        private int sort;
        private int start;
        private int end;
        private int number;
        // what was read last: a WHOLE or which of some WORDS, and where the WHOLE began
        private int value;
        private int valueAt;
        private int fault;
        private int place;

        Reader(Sheet tape, Hall hall) {
            this.tape = tape;
            this.hall = hall;
        }

        boolean read(int n) {
            begin(n);
            // every LINE takes a byte at least
            for (int i = 0; i <= limit; i++) {
                boolean good;
                switch (lineComing()) {
                    case 0:
                        good = readHall();
                        break;
                    case 1:
                        good = readRow();
                        break;
                    case 2:
                        good = readBand();
                        break;
                    case 3:
                        good = readHome();
                        break;
                    case 4:
                        good = readSteps();
                        break;
                    case 5:
                        good = readLeads();
                        break;
                    case 6:
                        good = readTable();
                        break;
                    case 7:
                        good = readDancer();
                        break;
                    case 8:
                        good = readSnake();
                        break;
                    case 9:
                        good = readFrame();
                        break;
                    default:
                        good = false;
                }
                if (!good) {
                    return false;
                }
                if (sort == END) {
                    return isWhole();
                }
                if (!expect(SEMICOLON)) {
                    return false;
                }
            }
            return fail(FORM, start);
        }

        private void begin(int n) {
            hall.clear();
            names.cut(0);
            limit = n;
            end = 0;
            fault = 0;
            place = 0;
            goOn();
        }

        private boolean isWhole() {
            boolean lacks = hall.paces.count() < 1 || hall.guide < 0 || hall.front < 0;
            return !lacks || fail(LACKS, limit);
        }

        /** Which LINE begins here; -1 if none can, or not this one. */
        private int lineComing() {
            int line = sort == WORD ? oneOf(LINES) : -1;
            int wrong = line < 0 ? FORM : lineFault(line);
            if (wrong != 0) {
                fail(wrong, start);
                return -1;
            }
            goOn();
            return line;
        }

        /** What is wrong with a LINE's coming here at all; of several the least. */
        private int lineFault(int line) {
            boolean snake = hall.front >= 0;
            switch (line) {
                case 0:
                    return hall.wide > 0 ? AGAIN : 0;
                case 1:
                    return hall.hasRows() ? MANY : lackIf(false);
                case 2:
                    return hall.music >= 0 ? AGAIN : lackIf(false);
                case 3:
                    return hall.home >= 0 ? AGAIN : lackIf(false);
                case 4:
                    return hall.paces.count() > 0 ? AGAIN : lackIf(false);
                case 5:
                    return hall.guide >= 0 ? AGAIN : lackIf(false);
                case 6:
                    return hall.tables.count() >= 4 ? MANY : lackIf(snake || !hall.hasRows());
                case 7:
                    return hall.dancers.count() >= 8 ? MANY : lackIf(snake);
                case 8:
                    return snake ? AGAIN : lackIf(!hall.hasRows() || hall.dancers.count() < 1);
                default:
                    return hall.frames.count() >= 8 ? MANY : lackIf(false);
            }
        }

        private int lackIf(boolean lacks) {
            return lacks || hall.wide < 1 ? LACKS : 0;
        }

        private boolean readHall() {
            if (!expectOne("wide") || !expectWhole(3, 8)) {
                return false;
            }
            int wide = value;
            if (!expectOne("high") || !expectWhole(2, 6)) {
                return false;
            }
            int high = value;
            if (!expectOne("law") || !expectOne("through round")) {
                return false;
            }
            hall.round = value == 1;
            if (!expectOne("joins") || !expectOne("end behind")) {
                return false;
            }
            hall.behind = value == 1;
            hall.wide = wide;
            hall.high = high;
            return true;
        }

        private boolean readRow() {
            if (sort != WORD) {
                return fail(FORM, start);
            }
            if (end - start != hall.wide) {
                return fail(WRONG, start);
            }
            for (int i = start; i < end; i++) {
                int letter = tape.get(i, 0);
                if (letter != 'f' && letter != 's' && letter != 'w') {
                    return fail(WRONG, start);
                }
                hall.ground.push(letter == 'f' ? Hall.FLOOR : letter == 's' ? Hall.STAIRS : Hall.WALL);
            }
            goOn();
            return true;
        }

        private boolean readBand() {
            if (!expectCell()) {
                return false;
            }
            int cell = value;
            if (!expectOne("sound") || !expectWhole(1, 9)) {
                return false;
            }
            hall.sound = value;
            hall.music = cell;
            return true;
        }

        private boolean readHome() {
            if (!expectCell()) {
                return false;
            }
            hall.home = value;
            return true;
        }

        private boolean readSteps() {
            if (!readListed(true)) {
                return false;
            }
            for (int i = 0; i < limit && sort == COMMA; i++) {
                goOn();
                if (!readListed(true)) {
                    return false;
                }
            }
            return true;
        }

        private boolean readLeads() {
            if (!expectOne("ahead right left lot home told")) {
                return false;
            }
            hall.guide = value;
            if (value != Row.TOLD) {
                return true;
            }
            if (!readListed(false)) {
                return false;
            }
            for (int i = 0; i < limit && sort == COMMA; i++) {
                goOn();
                if (!readListed(false)) {
                    return false;
                }
            }
            return true;
        }

        /** One of steps, or one SIDE of a told way; one too many is found only if it is one at all. */
        private boolean readListed(boolean pace) {
            int at = start;
            if (pace ? !expectWhole(0, 3) : !expectOne(SIDES)) {
                return false;
            }
            if (pace ? hall.paces.count() >= 8 : hall.sides.count() >= 12) {
                return fail(MANY, at);
            }
            if (pace) {
                hall.paces.push(value);
            } else {
                hall.sides.push(value);
            }
            return true;
        }

        private boolean readTable() {
            if (!readName() || !expectOne("at") || !expectCell()) {
                return false;
            }
            int spot = value;
            if (hall.ground.get(spot, 0) == Hall.TABLE) {
                return fail(AGAIN, valueAt);
            }
            if (hall.ground.get(spot, 0) == Hall.WALL) {
                return fail(WRONG, valueAt);
            }
            int table = hall.tables.count();
            hall.tables.push(spot);
            hall.ground.put(spot, 0, Hall.TABLE);
            if (!expectOne("sits") || !expectWhole(1, 9)) {
                return false;
            }
            hall.tables.put(table, Hall.SEATS, value);
            if (!readPerson(hall.tables, table, Hall.KIND)) {
                return false;
            }
            if (!expectOne("eager") || !expectWhole(0, 100)) {
                return false;
            }
            hall.tables.put(table, Hall.EAGER, value);
            return true;
        }

        private boolean readName() {
            if (sort != WORD || oneOf(LINES) >= 0) {
                return fail(FORM, start);
            }
            for (int i = 0; i < names.count(); i++) {
                if (sameName(names.get(i, 0), names.get(i, 1))) {
                    return fail(AGAIN, start);
                }
            }
            names.push(start);
            names.put(names.count() - 1, 1, end);
            goOn();
            return true;
        }

        private boolean sameName(int from, int to) {
            if (to - from != end - start) {
                return false;
            }
            for (int i = 0; i < to - from; i++) {
                if (tape.get(from + i, 0) != tape.get(start + i, 0)) {
                    return false;
                }
            }
            return true;
        }

        private boolean readDancer() {
            hall.dancers.push(0);
            return readPerson(hall.dancers, hall.dancers.count() - 1, 0);
        }

        private boolean readPerson(Sheet sheet, int line, int column) {
            if (!expectOne(KINDS)) {
                return false;
            }
            sheet.put(line, column, value);
            if (!expectOne("legs") || !expectWhole(1, 9)) {
                return false;
            }
            sheet.put(line, column + 1, value);
            if (!expectOne("grip") || !expectWhole(0, 9)) {
                return false;
            }
            sheet.put(line, column + 2, value);
            return true;
        }

        private boolean readSnake() {
            if (!expectCell()) {
                return false;
            }
            int front = value;
            if (!hall.isOpen(front)) {
                return fail(WRONG, valueAt);
            }
            int at = start;
            if (!expectOne(SIDES)) {
                return false;
            }
            int cell = front;
            for (int i = 1; i < hall.dancers.count(); i++) {
                cell = hall.beside(cell, (value + 2) % 4);
                if (!hall.isOpen(cell)) {
                    return fail(WRONG, at);
                }
            }
            hall.front = front;
            hall.look = value;
            return true;
        }

        private boolean readFrame() {
            if (!expectWhole(0, FARTHEST)) {
                return false;
            }
            int beat = value;
            if (!expectWhole(0, hall.dancers.count() - 1)) {
                return false;
            }
            int who = value;
            if (!expectOne("at") || !expectCell()) {
                return false;
            }
            int line = hall.frames.count();
            hall.frames.push(beat);
            hall.frames.put(line, 1, who);
            hall.frames.put(line, 2, value);
            return true;
        }

        /** Two WHOLES; the value is the CELL's number, and the place that of the second. */
        private boolean expectCell() {
            if (!expectWhole(0, hall.wide - 1)) {
                return false;
            }
            int x = value;
            if (!expect(COMMA) || !expectWhole(0, hall.high - 1)) {
                return false;
            }
            value = hall.cellAt(x, value);
            return true;
        }

        private boolean expectWhole(int least, int most) {
            if (sort != WHOLE) {
                return fail(FORM, start);
            }
            if (number < least || number > most) {
                return fail(BOUNDS, start);
            }
            value = number;
            valueAt = start;
            goOn();
            return true;
        }

        private boolean expectOne(String words) {
            int which = sort == WORD ? oneOf(words) : -1;
            if (which < 0) {
                return fail(FORM, start);
            }
            value = which;
            goOn();
            return true;
        }

        private boolean expect(int mark) {
            if (sort != mark) {
                return fail(FORM, start);
            }
            goOn();
            return true;
        }

        private boolean fail(int why, int at) {
            fault = why;
            place = at;
            return false;
        }

        /** Which of some words with blanks between this TOKEN is; -1 if none. */
        private int oneOf(String words) {
            int which = 0;
            int length = 0;
            boolean same = true;
            for (int i = 0; i < words.length(); i++) {
                char letter = words.charAt(i);
                if (letter != ' ') {
                    same = same && tape.get(start + length, 0) == letter;
                    length++;
                    continue;
                }
                if (same && length == end - start) {
                    return which;
                }
                which++;
                length = 0;
                same = true;
            }
            return same && length == end - start ? which : -1;
        }

        private void goOn() {
            start = end;
            for (; start < limit && tape.get(start, 0) == ' '; start++) {
                // blanks part TOKENS and mean nothing else
            }
            end = Math.min(start + 1, limit);
            if (start >= limit) {
                sort = END;
                return;
            }
            sort = sortOf(tape.get(start, 0));
            if (sort != WORD && sort != WHOLE) {
                return;
            }
            number = 0;
            for (end = start; end < limit && sortOf(tape.get(end, 0)) == sort; end++) {
                // only three digits can count; more are BAD below
                number = end - start < DIGITS ? number * 10 + tape.get(end, 0) - '0' : number;
            }
            if (end - start > (sort == WORD ? LETTERS : DIGITS)) {
                sort = BAD;
            }
        }

        private int sortOf(int letter) {
            if (letter >= 'a' && letter <= 'z') {
                return WORD;
            }
            if (letter >= '0' && letter <= '9') {
                return WHOLE;
            }
            return letter == ';' ? SEMICOLON : letter == ',' ? COMMA : BAD;
        }
    }
}
