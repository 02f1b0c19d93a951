/**
 * A railway line worked by absolute block: boxes offer trains to one another by bell codes,
 * token machines lock single sections, and an automatic working carries everything out.
 */
public final class BlockBells {
    public static final int NO_SUCH = -1, BAD_VALUE = -2, BAD_TEXT = -3, TOO_MANY = -4, NOT_POSSIBLE = -5, NONE = -6;
    public static final int NORMAL = 0, CLEAR = 1, OCCUPIED = 2, OBSTRUCTED = 3;
    public static final int ON_LINE = 0, IN_LOOP = 1, RUNNING = 2, GONE = 3;

    private static final int MIN_BOXES = 2, MAX_BOXES = 6, FIRST_BOXES = 4;
    private static final int MAX_SECTIONS = MAX_BOXES - 1;
    private static final int MAX_RUNNING_TIME = 30, FIRST_RUNNING_TIME = 5;
    private static final int MAX_LOOPS = 3, FIRST_LOOPS = 1;
    private static final int FIRST_TOKENS = 5, ALL_TOKENS = 2 * FIRST_TOKENS;
    private static final int MAX_TRAINS = 12, MAX_KIND = 5;
    private static final int MAX_TIME = 1000000, MAX_PASS = 1000, MAX_WORK = 300, MAX_FORECAST = 500;
    private static final int KEPT_SIGNALS = 60, SIGNAL_PROPERTIES = 5;
    private static final int PAD_SIZE = 60, LOWEST_SIGN = 33, HIGHEST_SIGN = 126;
    private static final int SLOTS = 2;

    private static final int REFUSAL = 1, ENTERING = 2, OBSTRUCTION = 6, LIFTING = 13;
    private static final int TRAIN_OUT = 21, ASSISTING = 22, CANCELLING = 35;

    private final Line line;
    // forecast() and capacity() try things out here, so that they make no object of their own.
    private final Line trial;
    private final Line[] slots;
    private final boolean[] saved;
    private final Pad pad;

    public BlockBells() {
        line = new Line();
        trial = new Line();
        slots = new Line[SLOTS];
        for (int i = 0; i < SLOTS; i++) {
            slots[i] = new Line();
        }
        saved = new boolean[SLOTS];
        pad = new Pad();
    }

    // ---- the line

    public int setUp(int boxes, int singles) {
        if (boxes < MIN_BOXES || boxes > MAX_BOXES || singles < 0 || singles >= 1 << (boxes - 1)) {
            return BAD_VALUE;
        }
        int appeared = line.appeared;
        line.layOut(boxes, singles);
        return appeared;
    }

    public int setTime(int section, int ticks) {
        Section changed = line.sectionAt(section);
        if (changed == null) {
            return NO_SUCH;
        }
        if (ticks < 1 || ticks > MAX_RUNNING_TIME) {
            return BAD_VALUE;
        }
        int previous = changed.runningTime;
        changed.runningTime = ticks;
        return previous;
    }

    public int setLoops(int box, int direction, int loops) {
        if (!line.hasBox(box) || !isDirection(direction)) {
            return NO_SUCH;
        }
        if (loops < 0 || loops > MAX_LOOPS) {
            return BAD_VALUE;
        }
        return line.changeLoops(box, direction, loops);
    }

    public int moveTokens(int section, int tokens) {
        Section changed = line.sectionAt(section);
        if (changed == null) {
            return NO_SUCH;
        }
        if (tokens < -ALL_TOKENS || tokens > ALL_TOKENS) {
            return BAD_VALUE;
        }
        return changed.moveUp(tokens);
    }

    public int section(int section, int what) {
        Section asked = line.sectionAt(section);
        return asked == null ? NO_SUCH : asked.property(what);
    }

    public int block(int section, int direction, int what) {
        Block asked = line.blockAt(section, direction);
        return asked == null ? NO_SUCH : asked.property(what);
    }

    // ---- trains

    public int appear(int kind, int direction) {
        if (!isKind(kind) || !isDirection(direction)) {
            return BAD_VALUE;
        }
        if (line.appeared >= MAX_TRAINS) {
            return TOO_MANY;
        }
        return line.bringNew(kind, direction);
    }

    public int train(int train, int what) {
        Train asked = line.trainAt(train);
        return asked == null ? NO_SUCH : asked.property(what);
    }

    public int shunt(int train) {
        Train moved = line.trainAt(train);
        return moved == null ? NO_SUCH : line.shuntTrain(moved);
    }

    public int leave(int train) {
        Train leaving = line.trainAt(train);
        return leaving == null ? NO_SUCH : line.letLeave(leaving);
    }

    public int divide(int train) {
        Train divided = line.trainAt(train);
        return divided == null ? NO_SUCH : line.divideTrain(divided);
    }

    // ---- working

    public int offer(int train) {
        Train offered = line.trainAt(train);
        return offered == null ? NO_SUCH : line.offerTrain(offered);
    }

    public int answer(int section, int direction, boolean yes) {
        Block asked = line.blockAt(section, direction);
        if (asked == null) {
            return NO_SUCH;
        }
        return yes ? line.accept(asked) : line.refuse(asked);
    }

    public int cancel(int section, int direction) {
        Block cancelled = line.blockAt(section, direction);
        return cancelled == null ? NO_SUCH : line.cancelBlock(cancelled);
    }

    public int depart(int train) {
        Train departing = line.trainAt(train);
        return departing == null ? NO_SUCH : line.letDepart(departing);
    }

    public int admit(int section, int direction) {
        Block left = line.blockAt(section, direction);
        return left == null ? NO_SUCH : line.admitTrain(left);
    }

    public int out(int section, int direction) {
        Block freed = line.blockAt(section, direction);
        return freed == null ? NO_SUCH : line.reportOut(freed);
    }

    public int assist(int section, int direction) {
        Block assisted = line.blockAt(section, direction);
        return assisted == null ? NO_SUCH : line.sendEngine(assisted);
    }

    public int obstruct(int section, int direction) {
        Block obstructed = line.blockAt(section, direction);
        return obstructed == null ? NO_SUCH : line.obstructBlock(obstructed);
    }

    public int lift(int section, int direction) {
        Block lifted = line.blockAt(section, direction);
        return lifted == null ? NO_SUCH : line.liftBlock(lifted);
    }

    public int pass(int ticks) {
        if (ticks < 1 || ticks > MAX_PASS) {
            return BAD_VALUE;
        }
        if (line.time + ticks > MAX_TIME) {
            return NOT_POSSIBLE;
        }
        line.letPass(ticks);
        return line.time;
    }

    public int signal(int signal, int what) {
        if (what < 0 || what >= SIGNAL_PROPERTIES) {
            return BAD_VALUE;
        }
        return line.register.property(signal, what);
    }

    public int rung(int code, int section) {
        if (section != -1 && line.sectionAt(section) == null) {
            return NO_SUCH;
        }
        return line.register.countOf(code, section);
    }

    // ---- automatic working

    public int work(int ticks) {
        if (ticks < 1 || ticks > MAX_WORK) {
            return BAD_VALUE;
        }
        if (line.time + ticks > MAX_TIME) {
            return NOT_POSSIBLE;
        }
        int left = 0;
        for (int tick = 0; tick < ticks; tick++) {
            left += line.workTick();
        }
        return left;
    }

    public int forecast(int train, int most) {
        if (line.trainAt(train) == null) {
            return NO_SUCH;
        }
        if (most < 1 || most > MAX_FORECAST) {
            return BAD_VALUE;
        }
        trial.copyFrom(line);
        for (int ticks = 0; ticks < most; ticks++) {
            if (trial.isGone(train)) {
                return ticks;
            }
            trial.workTick();
        }
        return trial.isGone(train) ? most : NONE;
    }

    public int capacity(int kind, int direction, int ticks) {
        if (!isKind(kind) || !isDirection(direction) || ticks < 1 || ticks > MAX_WORK) {
            return BAD_VALUE;
        }
        trial.copyFrom(line);
        trial.clearTraffic();
        int left = 0;
        for (int tick = 0; tick < ticks; tick++) {
            trial.bringSpare(kind, direction);
            left += trial.workTick();
        }
        return left;
    }

    // ---- texts

    public int say(int character) {
        if (character < LOWEST_SIGN || character > HIGHEST_SIGN) {
            return BAD_VALUE;
        }
        return pad.append(character);
    }

    public int wipe() {
        return pad.empty();
    }

    public int fault() {
        return pad.firstFault();
    }

    public int carryOut() {
        if (pad.firstFault() != NONE) {
            return BAD_TEXT;
        }
        int obeyed = 0;
        pad.rewind();
        for (int order = 0; order < PAD_SIZE; order++) {
            if (!pad.readOrder() || obey(pad.letter, pad.number, pad.direction) < 0) {
                break;
            }
            obeyed++;
        }
        pad.empty();
        return obeyed;
    }

    private int obey(int letter, int number, int direction) {
        switch (letter) {
            case 'o': return offer(number);
            case 'd': return depart(number);
            case 's': return shunt(number);
            case 'l': return leave(number);
            case 'y': return answer(number, direction, true);
            case 'n': return answer(number, direction, false);
            case 'c': return cancel(number, direction);
            case 'a': return admit(number, direction);
            case 'u': return out(number, direction);
            case 'e': return assist(number, direction);
            case 't': return pass(number);
            default: return BAD_TEXT;
        }
    }

    // ---- saving

    public int count(int what) {
        switch (what) {
            case 0: return line.time;
            case 1: return line.appeared;
            case 2: return line.trainsThatAre(GONE);
            case 3: return line.trainsThatAre(RUNNING);
            case 4: return line.register.total;
            case 5: return line.blocksOtherThan(Block.STATE, NORMAL);
            case 6: return line.boxes;
            case 7: return pad.length;
            case 8: return line.blocksOtherThan(Block.PART, 0);
            case 9: return line.blocksOtherThan(Block.OFFER, NONE);
            default: return BAD_VALUE;
        }
    }

    public int save(int slot) {
        if (slot < 0 || slot >= SLOTS) {
            return BAD_VALUE;
        }
        slots[slot].copyFrom(line);
        saved[slot] = true;
        return line.time;
    }

    public int restore(int slot) {
        if (slot < 0 || slot >= SLOTS) {
            return BAD_VALUE;
        }
        if (!saved[slot]) {
            return NOT_POSSIBLE;
        }
        line.copyFrom(slots[slot]);
        return line.time;
    }

    private static boolean isDirection(int direction) {
        return direction == 0 || direction == 1;
    }

    private static boolean isKind(int kind) {
        return kind >= 1 && kind <= MAX_KIND;
    }

    private static int offerCode(int kind) {
        switch (kind) {
            case 1: return 4;
            case 2: return 31;
            case 3: return 5;
            case 4: return 32;
            default: return 41;
        }
    }

    /** What both directions between two boxes share. Its end 0 is at the lower box, its end 1 at the higher one. */
    private static final class Section {
        final int number;
        boolean single;
        int runningTime;
        int lowerTokens;
        int higherTokens;
        boolean tokenOut;

        Section(int number) {
            this.number = number;
        }

        void layOut(boolean isSingle) {
            single = isSingle;
            runningTime = FIRST_RUNNING_TIME;
            // A double section has no machines; with no tokens it answers 0 for them.
            lowerTokens = isSingle ? FIRST_TOKENS : 0;
            higherTokens = lowerTokens;
        }

        void copyFrom(Section other) {
            single = other.single;
            runningTime = other.runningTime;
            lowerTokens = other.lowerTokens;
            higherTokens = other.higherTokens;
            tokenOut = other.tokenOut;
        }

        int property(int what) {
            switch (what) {
                case 0: return single ? 1 : 0;
                case 1: return runningTime;
                case 2: return lowerTokens;
                case 3: return higherTokens;
                case 4: return tokenOut ? 1 : 0;
                default: return BAD_VALUE;
            }
        }

        int moveUp(int tokens) {
            if (!single || lowerTokens - tokens < 0 || higherTokens + tokens < 0) {
                return NOT_POSSIBLE;
            }
            lowerTokens -= tokens;
            higherTokens += tokens;
            return lowerTokens;
        }

        boolean hasToken(int end) {
            return (end == 0 ? lowerTokens : higherTokens) > 0;
        }

        void takeToken(int end) {
            if (single) {
                addTokens(end, -1);
                tokenOut = true;
            }
        }

        void putToken(int end) {
            if (single) {
                addTokens(end, 1);
                tokenOut = false;
            }
        }

        private void addTokens(int end, int tokens) {
            if (end == 0) {
                lowerTokens += tokens;
            } else {
                higherTokens += tokens;
            }
        }
    }

    /** One direction of a section. Trains are held by their numbers, so that a copy of a line needs no new references. */
    private static final class Block {
        static final int STATE = 0, OFFER = 1, HOLDER = 2, PART = 3, ENGINE = 4;

        final Section section;
        final int direction;
        int state;
        int offered;
        int holder;
        boolean part;
        int engineTicks;

        Block(Section section, int direction) {
            this.section = section;
            this.direction = direction;
        }

        void reset() {
            state = NORMAL;
            offered = NONE;
            holder = NONE;
            part = false;
            engineTicks = 0;
        }

        void copyFrom(Block other) {
            state = other.state;
            offered = other.offered;
            holder = other.holder;
            part = other.part;
            engineTicks = other.engineTicks;
        }

        int property(int what) {
            switch (what) {
                case STATE: return state;
                case OFFER: return offered;
                case HOLDER: return holder;
                case PART: return part ? 1 : 0;
                case ENGINE: return engineTicks;
                default: return BAD_VALUE;
            }
        }

        int rearBox() {
            return section.number + direction;
        }

        int boxAhead() {
            return section.number + 1 - direction;
        }

        int rearEnd() {
            return direction;
        }

        int endAhead() {
            return 1 - direction;
        }

        void makeClear() {
            state = CLEAR;
            holder = offered;
            offered = NONE;
            section.takeToken(rearEnd());
        }

        /** Ends an offer or a CLEAR block; only the latter has a token to give back. */
        void takeBack(int newState) {
            if (state == CLEAR) {
                section.putToken(rearEnd());
            }
            state = newState;
            offered = NONE;
            holder = NONE;
        }

        void makeFree() {
            state = NORMAL;
            holder = NONE;
            section.putToken(endAhead());
        }

        void letPass(int ticks) {
            if (engineTicks == 0) {
                return;
            }
            engineTicks = Math.max(0, engineTicks - ticks);
            if (engineTicks == 0) {
                part = false;
            }
        }
    }

    private static final class Train {
        final int number;
        int kind;
        int direction;
        int where;
        int place;
        int ticksLeft;
        boolean whole;
        int appearedAt;
        int leftAt;

        Train(int number) {
            this.number = number;
        }

        void start(int newKind, int newDirection, int box, int time) {
            kind = newKind;
            direction = newDirection;
            standAt(ON_LINE, box);
            ticksLeft = 0;
            whole = true;
            appearedAt = time;
            leftAt = NONE;
        }

        void copyFrom(Train other) {
            kind = other.kind;
            direction = other.direction;
            where = other.where;
            place = other.place;
            ticksLeft = other.ticksLeft;
            whole = other.whole;
            appearedAt = other.appearedAt;
            leftAt = other.leftAt;
        }

        int property(int what) {
            switch (what) {
                case 0: return kind;
                case 1: return direction;
                case 2: return where;
                case 3: return place;
                case 4: return ticksLeft;
                case 5: return whole ? 1 : 0;
                case 6: return appearedAt;
                case 7: return leftAt;
                default: return BAD_VALUE;
            }
        }

        boolean stands(int asked, int box, int askedDirection) {
            return where == asked && place == box && direction == askedDirection;
        }

        void standAt(int newWhere, int box) {
            where = newWhere;
            place = box;
        }

        void enter(Section section) {
            where = RUNNING;
            place = section.number;
            ticksLeft = section.runningTime + kind - 1;
        }

        void go(int time) {
            where = GONE;
            place = NONE;
            leftAt = time;
        }

        void letPass(int ticks) {
            if (where == RUNNING) {
                ticksLeft = Math.max(0, ticksLeft - ticks);
            }
        }
    }

    /** The latest bell signals, each in a row of SIGNAL_PROPERTIES numbers; a new one takes the oldest one's row. */
    private static final class Register {
        final int[] rows;
        int total;

        Register() {
            rows = new int[KEPT_SIGNALS * SIGNAL_PROPERTIES];
        }

        void copyFrom(Register other) {
            System.arraycopy(other.rows, 0, rows, 0, KEPT_SIGNALS * SIGNAL_PROPERTIES);
            total = other.total;
        }

        void record(int time, Block block, int box, int code) {
            int row = rowOf(total);
            rows[row] = time;
            rows[row + 1] = block.section.number;
            rows[row + 2] = block.direction;
            rows[row + 3] = box;
            rows[row + 4] = code;
            total++;
        }

        /** what has to be 0 to 4. */
        int property(int signal, int what) {
            if (signal < oldest() || signal >= total) {
                return NONE;
            }
            return rows[rowOf(signal) + what];
        }

        int countOf(int code, int section) {
            int found = 0;
            for (int signal = oldest(); signal < total; signal++) {
                int row = rowOf(signal);
                if (rows[row + 4] == code && (section == -1 || rows[row + 1] == section)) {
                    found++;
                }
            }
            return found;
        }

        private int oldest() {
            return Math.max(0, total - KEPT_SIGNALS);
        }

        private static int rowOf(int signal) {
            // The mask keeps the row inside the array whatever the number is.
            return (signal & 0x7fffffff) % KEPT_SIGNALS * SIGNAL_PROPERTIES;
        }
    }

    /** Everything that is saved and tried out: the line, its trains, its time and its register. */
    private static final class Line {
        final Section[] sections;
        final Block[] blocks;
        final Train[] trains;
        final int[] loops;
        final Register register;
        int boxes;
        int appeared;
        int time;

        Line() {
            sections = new Section[MAX_SECTIONS];
            blocks = new Block[2 * MAX_SECTIONS];
            for (int i = 0; i < MAX_SECTIONS; i++) {
                sections[i] = new Section(i);
                blocks[2 * i] = new Block(sections[i], 0);
                blocks[2 * i + 1] = new Block(sections[i], 1);
            }
            trains = new Train[MAX_TRAINS];
            for (int i = 0; i < MAX_TRAINS; i++) {
                trains[i] = new Train(i);
            }
            loops = new int[2 * MAX_BOXES];
            register = new Register();
            layOut(FIRST_BOXES, 0);
        }

        /** newBoxes has to be 2 to 6. */
        void layOut(int newBoxes, int singles) {
            boxes = newBoxes;
            for (int i = 0; i < MAX_SECTIONS; i++) {
                sections[i].layOut((singles >> i & 1) == 1);
            }
            for (int i = 0; i < 2 * MAX_BOXES; i++) {
                loops[i] = FIRST_LOOPS;
            }
            clearTraffic();
            time = 0;
            register.total = 0;
        }

        void clearTraffic() {
            appeared = 0;
            for (int i = 0; i < MAX_SECTIONS; i++) {
                sections[i].tokenOut = false;
            }
            for (int i = 0; i < 2 * MAX_SECTIONS; i++) {
                blocks[i].reset();
            }
        }

        void copyFrom(Line other) {
            boxes = other.boxes;
            appeared = other.appeared;
            time = other.time;
            for (int i = 0; i < MAX_SECTIONS; i++) {
                sections[i].copyFrom(other.sections[i]);
            }
            for (int i = 0; i < 2 * MAX_SECTIONS; i++) {
                blocks[i].copyFrom(other.blocks[i]);
            }
            for (int i = 0; i < MAX_TRAINS; i++) {
                trains[i].copyFrom(other.trains[i]);
            }
            System.arraycopy(other.loops, 0, loops, 0, 2 * MAX_BOXES);
            register.copyFrom(other.register);
        }

        // ---- what is where

        boolean hasBox(int box) {
            return box >= 0 && box < boxes;
        }

        Section sectionAt(int section) {
            return section >= 0 && section < boxes - 1 ? sections[section] : null;
        }

        Block blockAt(int section, int direction) {
            if (section < 0 || section >= boxes - 1 || direction < 0 || direction > 1) {
                return null;
            }
            return blocks[2 * section + direction];
        }

        Train trainAt(int train) {
            return train >= 0 && train < appeared ? trains[train] : null;
        }

        boolean isGone(int train) {
            Train asked = trainAt(train);
            return asked != null && asked.where == GONE;
        }

        int blockCount() {
            return 2 * (boxes - 1);
        }

        int firstBox(int direction) {
            return direction == 0 ? 0 : boxes - 1;
        }

        int lastBox(int direction) {
            return firstBox(1 - direction);
        }

        boolean isLineFree(int box, int direction) {
            return trainsStanding(ON_LINE, box, direction) == 0;
        }

        int trainsStanding(int where, int box, int direction) {
            int found = 0;
            for (int i = 0; i < appeared; i++) {
                if (trains[i].stands(where, box, direction)) {
                    found++;
                }
            }
            return found;
        }

        /** The block that a train on a running line would enter; null if it is elsewhere or at the last box. */
        Block nextBlock(Train train) {
            return train.where == ON_LINE ? blockAt(train.place - train.direction, train.direction) : null;
        }

        /** null at the first box of the direction. */
        Block blockTo(int box, int direction) {
            return blockAt(box - 1 + direction, direction);
        }

        /** The train to which a block belongs, while it is in the section; else null. */
        Train trainInside(Block block) {
            Train train = block.state == OCCUPIED ? trainAt(block.holder) : null;
            if (train == null || train.where != RUNNING || train.place != block.section.number) {
                return null;
            }
            return train;
        }

        // ---- counts

        int trainsThatAre(int where) {
            int found = 0;
            for (int i = 0; i < appeared; i++) {
                if (trains[i].where == where) {
                    found++;
                }
            }
            return found;
        }

        int blocksOtherThan(int what, int usual) {
            int found = 0;
            for (int i = 0; i < blockCount(); i++) {
                if (blocks[i].property(what) != usual) {
                    found++;
                }
            }
            return found;
        }

        // ---- loops and trains

        /** box and direction have to exist. */
        int changeLoops(int box, int direction, int newLoops) {
            if (trainsStanding(IN_LOOP, box, direction) > newLoops) {
                return NOT_POSSIBLE;
            }
            int previous = loops[2 * box + direction];
            loops[2 * box + direction] = newLoops;
            return previous;
        }

        int bringNew(int kind, int direction) {
            int box = firstBox(direction);
            if (appeared >= MAX_TRAINS || !isLineFree(box, direction)) {
                return NOT_POSSIBLE;
            }
            Train train = trains[appeared];
            train.start(kind, direction, box, time);
            appeared++;
            return train.number;
        }

        /**
         * Brings a train without a limit to their number: one that is GONE is used again. Trains of one direction
         * alone never need more than MAX_TRAINS, as the running lines and sections have room for 11 of them.
         */
        void bringSpare(int kind, int direction) {
            int box = firstBox(direction);
            if (!isLineFree(box, direction)) {
                return;
            }
            for (int i = 0; i < appeared; i++) {
                if (trains[i].where == GONE) {
                    trains[i].start(kind, direction, box, time);
                    return;
                }
            }
            bringNew(kind, direction);
        }

        int shuntTrain(Train train) {
            if (train.where == ON_LINE) {
                return shuntToLoop(train);
            }
            return train.where == IN_LOOP ? shuntBack(train) : NOT_POSSIBLE;
        }

        private int shuntToLoop(Train train) {
            Block next = nextBlock(train);
            if (next != null && (next.offered == train.number || next.state == CLEAR && next.holder == train.number)) {
                return NOT_POSSIBLE;
            }
            if (!hasBox(train.place) || !isDirection(train.direction)) {
                return NOT_POSSIBLE;
            }
            int room = loops[2 * train.place + train.direction];
            if (trainsStanding(IN_LOOP, train.place, train.direction) >= room) {
                return NOT_POSSIBLE;
            }
            train.standAt(IN_LOOP, train.place);
            return IN_LOOP;
        }

        private int shuntBack(Train train) {
            Block entry = blockTo(train.place, train.direction);
            boolean isEntryShut = entry == null || entry.state == NORMAL || entry.state == OBSTRUCTED;
            if (!isEntryShut || !isLineFree(train.place, train.direction)) {
                return NOT_POSSIBLE;
            }
            train.standAt(ON_LINE, train.place);
            return ON_LINE;
        }

        int letLeave(Train train) {
            if (!train.stands(ON_LINE, lastBox(train.direction), train.direction)) {
                return NOT_POSSIBLE;
            }
            train.go(time);
            return time - train.appearedAt;
        }

        int divideTrain(Train train) {
            Block block = train.where == RUNNING ? blockAt(train.place, train.direction) : null;
            if (block == null || !train.whole) {
                return NOT_POSSIBLE;
            }
            train.whole = false;
            block.part = true;
            return block.section.number;
        }

        // ---- bell signals

        private int ringRear(Block block, int code) {
            register.record(time, block, block.rearBox(), code);
            return code;
        }

        private int ringAhead(Block block, int code) {
            register.record(time, block, block.boxAhead(), code);
            return code;
        }

        int offerTrain(Train train) {
            Block next = nextBlock(train);
            if (next == null || next.state != NORMAL || next.offered != NONE) {
                return NOT_POSSIBLE;
            }
            next.offered = train.number;
            return ringRear(next, offerCode(train.kind));
        }

        int accept(Block block) {
            Train train = trainAt(block.offered);
            if (train == null || !isLineFree(block.boxAhead(), block.direction) || !isTokenReady(block)) {
                return NOT_POSSIBLE;
            }
            block.makeClear();
            return ringAhead(block, offerCode(train.kind));
        }

        /** A double section needs no token. */
        private boolean isTokenReady(Block block) {
            Section section = block.section;
            if (!section.single) {
                return true;
            }
            Block other = blockAt(section.number, 1 - block.direction);
            boolean isOtherNormal = other != null && other.state == NORMAL;
            return isOtherNormal && !section.tokenOut && section.hasToken(block.rearEnd());
        }

        int refuse(Block block) {
            if (block.offered == NONE) {
                return NOT_POSSIBLE;
            }
            block.offered = NONE;
            return ringAhead(block, REFUSAL);
        }

        int cancelBlock(Block block) {
            if (block.offered == NONE && block.state != CLEAR) {
                return NOT_POSSIBLE;
            }
            block.takeBack(NORMAL);
            return ringRear(block, CANCELLING);
        }

        int letDepart(Train train) {
            Block next = nextBlock(train);
            if (next == null || next.state != CLEAR || next.holder != train.number) {
                return NOT_POSSIBLE;
            }
            next.state = OCCUPIED;
            train.enter(next.section);
            ringRear(next, ENTERING);
            return train.ticksLeft;
        }

        int admitTrain(Block block) {
            Train train = trainInside(block);
            if (train == null || train.ticksLeft > 0 || !isLineFree(block.boxAhead(), block.direction)) {
                return NOT_POSSIBLE;
            }
            train.standAt(ON_LINE, block.boxAhead());
            return train.number;
        }

        int reportOut(Block block) {
            if (block.state != OCCUPIED || block.part || trainInside(block) != null) {
                return NOT_POSSIBLE;
            }
            block.makeFree();
            return ringAhead(block, TRAIN_OUT);
        }

        int sendEngine(Block block) {
            if (!block.part || block.engineTicks > 0 || trainInside(block) != null) {
                return NOT_POSSIBLE;
            }
            block.engineTicks = 2 * block.section.runningTime;
            ringRear(block, ASSISTING);
            return block.engineTicks;
        }

        int obstructBlock(Block block) {
            int previous = block.state;
            if (previous != NORMAL && previous != CLEAR) {
                return NOT_POSSIBLE;
            }
            block.takeBack(OBSTRUCTED);
            ringAhead(block, OBSTRUCTION);
            return previous;
        }

        int liftBlock(Block block) {
            if (block.state != OBSTRUCTED) {
                return NOT_POSSIBLE;
            }
            block.state = NORMAL;
            return ringAhead(block, LIFTING);
        }

        void letPass(int ticks) {
            for (int i = 0; i < appeared; i++) {
                trains[i].letPass(ticks);
            }
            for (int i = 0; i < blockCount(); i++) {
                blocks[i].letPass(ticks);
            }
            time += ticks;
        }

        // ---- automatic working

        /** Does a tick of automatic working, in which what is not possible changes nothing, and tells how many trains left. */
        int workTick() {
            clearSections();
            int left = leaveAll();
            offerAll();
            answerAll();
            departAll();
            letPass(1);
            return left;
        }

        private void clearSections() {
            int count = blockCount();
            for (int i = 0; i < count; i++) {
                reportOut(blocks[i]);
            }
            for (int i = 0; i < count; i++) {
                sendEngine(blocks[i]);
            }
            for (int i = 0; i < count; i++) {
                admitTrain(blocks[i]);
            }
        }

        private int leaveAll() {
            int left = 0;
            for (int i = 0; i < appeared; i++) {
                if (letLeave(trains[i]) >= 0) {
                    left++;
                }
            }
            return left;
        }

        private void offerAll() {
            for (int i = 0; i < appeared; i++) {
                offerTrain(trains[i]);
            }
        }

        private void answerAll() {
            for (int i = 0; i < blockCount(); i++) {
                if (accept(blocks[i]) < 0) {
                    refuse(blocks[i]);
                }
            }
        }

        private void departAll() {
            for (int i = 0; i < appeared; i++) {
                letDepart(trains[i]);
            }
        }
    }

    /** The text that is written, and a reader that goes through its orders. */
    private static final class Pad {
        // What may come next in a text; WRONG if what came cannot stand there.
        private static final int WRONG = -1, ORDER = 0, TRAIN = 1, TRAIN_AFTER_ONE = 2, SECTION = 3, SIDE = 4;
        private static final int TICKS = 5, SECOND_DIGIT = 6, COMMA = 7;

        final int[] signs;
        int length;
        int at;
        int letter;
        int number;
        int direction;

        Pad() {
            signs = new int[PAD_SIZE];
        }

        int append(int sign) {
            if (length >= PAD_SIZE) {
                return TOO_MANY;
            }
            signs[length] = sign;
            length++;
            return length;
        }

        int empty() {
            int previous = length;
            length = 0;
            return previous;
        }

        int firstFault() {
            int expected = ORDER;
            for (int i = 0; i < length; i++) {
                expected = after(expected, signs[i]);
                if (expected == WRONG) {
                    return i;
                }
            }
            boolean mayEnd = expected == COMMA || expected == TRAIN_AFTER_ONE || expected == SECOND_DIGIT;
            return mayEnd ? NONE : length;
        }

        private static int after(int expected, int sign) {
            switch (expected) {
                case ORDER: return afterLetter(sign);
                case TRAIN: return sign == '1' ? TRAIN_AFTER_ONE : isBetween(sign, '0', '9') ? COMMA : WRONG;
                case TRAIN_AFTER_ONE: return isBetween(sign, '0', '1') ? COMMA : afterOrder(sign);
                case SECTION: return isBetween(sign, '0', '4') ? SIDE : WRONG;
                case SIDE: return sign == '+' || sign == '-' ? COMMA : WRONG;
                case TICKS: return isBetween(sign, '1', '9') ? SECOND_DIGIT : WRONG;
                case SECOND_DIGIT: return isBetween(sign, '0', '9') ? COMMA : afterOrder(sign);
                default: return afterOrder(sign);
            }
        }

        private static int afterLetter(int sign) {
            switch (sign) {
                case 'o': case 'd': case 's': case 'l':
                    return TRAIN;
                case 'y': case 'n': case 'c': case 'a': case 'u': case 'e':
                    return SECTION;
                case 't':
                    return TICKS;
                default:
                    return WRONG;
            }
        }

        private static int afterOrder(int sign) {
            return sign == ',' ? ORDER : WRONG;
        }

        private static boolean isBetween(int sign, int lowest, int highest) {
            return sign >= lowest && sign <= highest;
        }

        void rewind() {
            at = 0;
        }

        /** Reads the next order of a correct text into letter, number and direction; false if there is none. */
        boolean readOrder() {
            if (at >= length) {
                return false;
            }
            letter = signs[at];
            number = 0;
            direction = 0;
            at++;
            while (at < length && signs[at] != ',') {
                readSign(signs[at]);
                at++;
            }
            at++;
            return true;
        }

        private void readSign(int sign) {
            if (isBetween(sign, '0', '9')) {
                number = 10 * number + sign - '0';
            } else if (sign == '-') {
                direction = 1;
            }
        }
    }
}
