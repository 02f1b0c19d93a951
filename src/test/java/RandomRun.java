import java.util.Random;

/** A run of chosen and random calls on the program; what becomes of each call is told by the class that extends this one. */
abstract class RandomRun {
    private static final int CALLS = 500;
    private static final int CALLS_BETWEEN_LOOKS = 20;
    private static final int[] ODD = {Integer.MIN_VALUE, -11, -2, -1, 7, 12, 31, 1001, Integer.MAX_VALUE};
    private static final String[] LETTERS = {"o", "d", "s", "l", "y", "n", "c", "a", "u", "e", "t"};
    private static final String SIGNS = "odslyncaueut0123456789+-,,x";

    final Random random;
    final Caller program = new Caller(new BlockBells());
    private int wrong = 0;

    RandomRun(int seed) {
        random = new Random(seed);
    }

    /** Makes a call on the program. */
    abstract void call(String name, int... numbers);

    /** Looks at the state, now and then. */
    abstract void look();

    void complain(String text) {
        wrong++;
        System.out.println(text);
    }

    /** Ends the test if something was wrong. */
    void run(int seed) {
        if (random.nextInt(4) > 0) {
            int boxes = 2 + random.nextInt(5);
            call("setUp", boxes, random.nextInt(1 << boxes - 1));
        }
        for (int i = 0; i < CALLS && wrong == 0; i++) {
            step();
            if (i % CALLS_BETWEEN_LOOKS == 0 || i == CALLS - 1) {
                look();
            }
        }
        if (wrong > 0) {
            System.out.println("in the run of seed " + seed);
            System.exit(1);
        }
    }

    private void step() {
        int choice = random.nextInt(100);
        if (choice < 45) {
            workTrain();
        } else if (choice < 65) {
            workBlock();
        } else if (choice < 80) {
            call("pass", number(1, 8));
        } else if (choice < 88) {
            changeLine();
        } else if (choice < 93) {
            automatic();
        } else if (choice < 97) {
            writeText();
        } else {
            ask();
        }
    }

    private void workTrain() {
        int train = number(0, Math.max(0, program.call("count", 1) - 1));
        switch (random.nextInt(9)) {
            case 0: call("appear", number(1, 5), number(0, 1)); break;
            case 1: call("shunt", train); break;
            case 2: call("leave", train); break;
            case 3: call("divide", train); break;
            case 4: case 5: case 6: call("offer", train); break;
            default: call("depart", train); break;
        }
    }

    private void workBlock() {
        int section = number(0, program.call("count", 6) - 2);
        int direction = number(0, 1);
        switch (random.nextInt(12)) {
            case 0: call("cancel", section, direction); break;
            case 1: case 2: call("admit", section, direction); break;
            case 3: case 4: call("out", section, direction); break;
            case 5: call("assist", section, direction); break;
            case 6: call("obstruct", section, direction); break;
            case 7: call("lift", section, direction); break;
            case 8: call("answer", section, direction, 0); break;
            default: call("answer", section, direction, 1); break;
        }
    }

    private void changeLine() {
        int boxes = program.call("count", 6);
        switch (random.nextInt(10)) {
            case 0: case 1: call("setTime", number(0, boxes - 2), number(1, 8)); break;
            case 2: case 3: call("setLoops", number(0, boxes - 1), number(0, 1), number(0, 3)); break;
            case 4: case 5: call("moveTokens", number(0, boxes - 2), number(-4, 4)); break;
            case 6: case 7: call("save", number(0, 1)); break;
            case 8: call("restore", number(0, 1)); break;
            default:
                if (random.nextInt(8) == 0) {
                    call("setUp", number(2, 6), number(0, 31));
                }
                break;
        }
    }

    private void automatic() {
        switch (random.nextInt(4)) {
            case 0: call("forecast", number(0, Math.max(0, program.call("count", 1) - 1)), number(1, 200)); break;
            case 1: call("capacity", number(1, 5), number(0, 1), number(1, 120)); break;
            default: call("work", number(1, 12)); break;
        }
    }

    private void writeText() {
        call("wipe");
        int orders = 1 + random.nextInt(8);
        for (int i = 0; i < orders; i++) {
            String text = random.nextInt(12) == 0 ? Character.toString(SIGNS.charAt(random.nextInt(SIGNS.length()))) : order();
            for (char sign : (i == 0 ? text : "," + text).toCharArray()) {
                call("say", sign);
            }
        }
        call("fault");
        call("carryOut");
    }

    private String order() {
        int letter = random.nextInt(LETTERS.length);
        if (letter < 4) {
            return LETTERS[letter] + random.nextInt(random.nextInt(4) == 0 ? 13 : 5);
        }
        if (letter < 10) {
            return LETTERS[letter] + random.nextInt(5) + (random.nextBoolean() ? "+" : "-");
        }
        return LETTERS[letter] + (1 + random.nextInt(12));
    }

    private void ask() {
        switch (random.nextInt(4)) {
            case 0: call("rung", random.nextInt(45), number(-1, 4)); break;
            case 1: call("signal", number(0, 80), number(0, 4)); break;
            case 2: call("count", number(0, 9)); break;
            default: call("say", number(33, 126)); break;
        }
    }

    /** A number between two others, but now and then one that is out of every range. */
    private int number(int lowest, int highest) {
        if (random.nextInt(25) == 0) {
            return ODD[random.nextInt(ODD.length)];
        }
        return lowest + random.nextInt(highest - lowest + 1);
    }
}
