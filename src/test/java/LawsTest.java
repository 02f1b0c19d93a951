import java.util.List;

/**
 * What the document lets hold at every time of every run, looked at through the face alone, so that a mistake that
 * program and model share would show: what stands where, what the tokens add up to, and that work(), forecast(),
 * capacity() and carryOut() come to what the single calls come to.
 */
public final class LawsTest extends RandomRun {
    private static final int RUNS = 150;
    private static final int LONGEST_FORECAST = 80;
    private static final int SLOT = 1;

    private LawsTest(int seed) {
        super(seed);
    }

    public static void main(String[] args) {
        for (int seed = 0; seed < RUNS; seed++) {
            new LawsTest(seed).run(seed);
        }
        System.out.println("the laws hold");
    }

    @Override
    void call(String name, int... numbers) {
        program.call(name, numbers);
    }

    @Override
    void look() {
        places();
        for (int section = 0; section < get("count", 6) - 1; section++) {
            tokens(section);
            block(section, 0);
            block(section, 1);
        }
        for (int train = 0; train < get("count", 1); train++) {
            train(train);
        }
        get("save", SLOT);
        workIsItsSteps();
        for (int train = 0; train < get("count", 1); train++) {
            forecastIsWork(train);
        }
        textIsItsOrders();
        for (int direction = 0; direction < 2; direction++) {
            capacityIsWork(1 + random.nextInt(5), direction);
        }
    }

    private int get(String name, int... numbers) {
        return program.call(name, numbers);
    }

    private void hold(boolean isSo, String law) {
        if (!isSo) {
            complain("this does not hold: " + law);
        }
    }

    private int trainsAt(int where, int box, int direction) {
        int found = 0;
        for (int train = 0; train < get("count", 1); train++) {
            boolean isThere = get("train", train, 2) == where && get("train", train, 3) == box;
            found += isThere && get("train", train, 1) == direction ? 1 : 0;
        }
        return found;
    }

    private int loopsAt(int box, int direction) {
        int loops = get("setLoops", box, direction, 3);
        get("setLoops", box, direction, loops);
        return loops;
    }

    private void places() {
        for (int box = 0; box < get("count", 6); box++) {
            for (int direction = 0; direction < 2; direction++) {
                hold(trainsAt(BlockBells.ON_LINE, box, direction) <= 1, "a running line has room for one train");
                hold(trainsAt(BlockBells.IN_LOOP, box, direction) <= loopsAt(box, direction), "a loop has room for one train");
            }
        }
    }

    private boolean isInUse(int section, int direction) {
        int state = get("block", section, direction, 0);
        return state == BlockBells.CLEAR || state == BlockBells.OCCUPIED;
    }

    private void tokens(int section) {
        int lower = get("section", section, 2);
        int higher = get("section", section, 3);
        int out = get("section", section, 4);
        boolean isSingle = get("section", section, 0) == 1;
        hold(lower >= 0 && higher >= 0 && lower + higher + out == (isSingle ? 10 : 0), "no token is lost or made");
        boolean isUp = isInUse(section, 0);
        boolean isDown = isInUse(section, 1);
        hold(!isSingle || out == (isUp || isDown ? 1 : 0), "a token is out for the train of a block");
        hold(!isSingle || !isUp || !isDown, "a single section is used in one direction at a time");
    }

    private void block(int section, int direction) {
        int state = get("block", section, direction, 0);
        int offer = get("block", section, direction, 1);
        int owner = get("block", section, direction, 2);
        boolean hasPart = get("block", section, direction, 3) == 1;
        hold(offer == BlockBells.NONE || state == BlockBells.NORMAL, "only a block that is NORMAL has an offer");
        hold(offer == BlockBells.NONE || waits(offer, section, direction), "a train that is offered waits at the rear box");
        hold(isInUse(section, direction) == (owner != BlockBells.NONE), "a block in use has a train, another one has none");
        hold(state != BlockBells.CLEAR || waits(owner, section, direction), "the train of a CLEAR block waits at the rear box");
        boolean isAwaited = state == BlockBells.CLEAR || state == BlockBells.OCCUPIED && isInside(owner, section);
        int lineAhead = trainsAt(BlockBells.ON_LINE, section + 1 - direction, direction);
        hold(!isAwaited || lineAhead == 0, "the running line ahead is kept free for the train of a block");
        hold(!hasPart || state == BlockBells.OCCUPIED, "a part keeps its block OCCUPIED");
        hold(!hasPart || get("train", owner, 5) == 0, "the train that left a part is divided");
        hold(get("block", section, direction, 4) == 0 || hasPart, "an engine is there for a part");
    }

    private boolean waits(int train, int section, int direction) {
        boolean isOnLine = get("train", train, 2) == BlockBells.ON_LINE && get("train", train, 1) == direction;
        return isOnLine && get("train", train, 3) == section + direction;
    }

    private boolean isInside(int train, int section) {
        return get("train", train, 2) == BlockBells.RUNNING && get("train", train, 3) == section;
    }

    private void train(int train) {
        int where = get("train", train, 2);
        int place = get("train", train, 3);
        boolean isGone = where == BlockBells.GONE;
        boolean isRunning = where == BlockBells.RUNNING;
        hold(isGone == (place == BlockBells.NONE), "a train is nowhere when it is GONE");
        hold(isGone == (get("train", train, 7) != BlockBells.NONE), "a train left when it is GONE");
        hold(isRunning || get("train", train, 4) == 0, "only a train that is RUNNING has ticks left");
        hold(!isRunning || get("block", place, get("train", train, 1), 2) == train, "the block of a RUNNING train belongs to it");
    }

    private void workIsItsSteps() {
        int gone = get("count", 2);
        int left = get("work", 1);
        List<String> due = program.state();
        get("restore", SLOT);
        workByHand();
        hold(due.equals(program.state()), "work(1) does what its steps do");
        hold(left == get("count", 2) - gone, "work(1) counts the trains that left");
        get("restore", SLOT);
    }

    /** The steps as the document numbers them; a call that fails does nothing. */
    private void workByHand() {
        forAllBlocks("out");
        forAllBlocks("assist");
        forAllBlocks("admit");
        forAllTrains("leave");
        forAllTrains("offer");
        for (int section = 0; section < get("count", 6) - 1; section++) {
            for (int direction = 0; direction < 2; direction++) {
                if (get("answer", section, direction, 1) < 0) {
                    get("answer", section, direction, 0);
                }
            }
        }
        forAllTrains("depart");
        get("pass", 1);
    }

    private void forAllBlocks(String name) {
        for (int section = 0; section < get("count", 6) - 1; section++) {
            get(name, section, 0);
            get(name, section, 1);
        }
    }

    private void forAllTrains(String name) {
        for (int train = 0; train < get("count", 1); train++) {
            get(name, train);
        }
    }

    private void forecastIsWork(int train) {
        int due = get("train", train, 2) == BlockBells.GONE ? 0 : BlockBells.NONE;
        int forecast = get("forecast", train, LONGEST_FORECAST);
        for (int ticks = 1; ticks <= LONGEST_FORECAST && due == BlockBells.NONE; ticks++) {
            get("work", 1);
            due = get("train", train, 2) == BlockBells.GONE ? ticks : due;
        }
        get("restore", SLOT);
        hold(forecast == due, "forecast() tells what work() does");
        hold(due < 1 || get("forecast", train, due) == due, "forecast() looks at the last tick");
        hold(due < 2 || get("forecast", train, due - 1) == BlockBells.NONE, "forecast() ends with the last tick");
    }

    private void textIsItsOrders() {
        int section = random.nextInt(5);
        int train = random.nextInt(12);
        String text = "o" + train + ",y" + section + "-,d" + train + ",t" + (1 + random.nextInt(99)) + ",a" + section + "-";
        get("wipe");
        for (char sign : text.toCharArray()) {
            get("say", sign);
        }
        int done = get("carryOut");
        List<String> due = program.state();
        get("restore", SLOT);
        int byHand = get("offer", train) < 0 ? 0
            : get("answer", section, 1, 1) < 0 ? 1
            : get("depart", train) < 0 ? 2
            : get("pass", Integer.parseInt(text.substring(text.indexOf('t') + 1, text.indexOf(",a")))) < 0 ? 3
            : get("admit", section, 1) < 0 ? 4 : 5;
        hold(done == byHand && due.equals(program.state()), text + " is carried out as its orders are");
        get("restore", SLOT);
    }

    /** Can be seen until the 12th train, and only while all tokens are in machines. */
    private void capacityIsWork(int kind, int direction) {
        Caller other = emptyLine();
        if (other == null) {
            return;
        }
        int left = 0;
        for (int ticks = 1; ticks <= LONGEST_FORECAST; ticks++) {
            if (other.call("appear", kind, direction) == BlockBells.TOO_MANY) {
                return;
            }
            left += other.call("work", 1);
            hold(get("capacity", kind, direction, ticks) == left, "capacity() tells what work() does");
        }
    }

    /** The same line without trains; null if a token is out. */
    private Caller emptyLine() {
        int sections = get("count", 6) - 1;
        int singles = 0;
        for (int section = 0; section < sections; section++) {
            singles |= get("section", section, 0) << section;
        }
        Caller other = new Caller(new BlockBells());
        other.call("setUp", sections + 1, singles);
        for (int section = 0; section < sections; section++) {
            if (get("section", section, 4) == 1) {
                return null;
            }
            other.call("setTime", section, get("section", section, 1));
            other.call("moveTokens", section, 5 - get("section", section, 2));
        }
        return other;
    }
}
