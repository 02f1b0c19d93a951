/** Promises 32 to 34: counts, saving and restoring. */
public final class SavingTest {
    public static void main(String[] args) {
        count();
        save();
        restore();
        Script.end();
    }

    private static void count() {
        new Script("32").then("count(-1) = BAD_VALUE; count(10) = BAD_VALUE; count(LEAST) = BAD_VALUE;"
            + "count(MOST) = BAD_VALUE; setUp(5, 1) = 0; count(6) = 5; pass(3) = 3; count(0) = 3; appear(1, 0) = 0;"
            + "appear(1, 1) = 1; count(1) = 2; count(2) = 0; count(3) = 0; offer(0) = 4; offer(1) = 4; count(9) = 2;"
            + "count(4) = 2; count(5) = 0; answer(0, 0, yes) = 4; count(9) = 1; count(5) = 1; depart(0) = 5; count(3) = 1;"
            + "count(5) = 1; answer(3, 1, yes) = 4; depart(1) = 5; count(3) = 2; count(5) = 2; divide(0) = 0; divide(1) = 3;"
            + "count(8) = 2; obstruct(2, 0) = 0; count(5) = 3; count(4) = 7; pass(5) = 8; admit(0, 0) = 0; count(3) = 1;"
            + "assist(0, 0) = 10; count(8) = 2; pass(10) = 18; count(8) = 1; lift(2, 0) = 13; count(5) = 2;"
            + "out(0, 0) = 21; count(5) = 1; count(4) = 10; work(99) = 2; count(2) = 2; count(3) = 0; count(5) = 0;"
            + "count(8) = 0; count(0) = 117").write("abc").then("count(7) = 3");
        Script many = new Script("32 all signals").times(40, "obstruct(0, 0) = 0; lift(0, 0) = 13");
        many.then("count(4) = 80");
    }

    private static void save() {
        Script.run("33", "save(2) = BAD_VALUE; save(-1) = BAD_VALUE; save(LEAST) = BAD_VALUE; save(MOST) = BAD_VALUE;"
            + "restore(0) = NOT_POSSIBLE; save(0) = 0; pass(9) = 9; save(1) = 9; pass(1) = 10; restore(0) = 0;"
            + "restore(1) = 9; save(0) = 9; pass(5) = 14; restore(0) = 9");
        Script.run("33 slots are apart", "save(1) = 0; restore(0) = NOT_POSSIBLE; appear(1, 0) = 0; save(0) = 0;"
            + "restore(1) = 0; count(1) = 0; restore(0) = 0; count(1) = 1; save(1) = 0; setUp(2, 1) = 1; save(0) = 0;"
            + "restore(1) = 0; count(6) = 4; restore(0) = 0; count(6) = 2; section(0, 0) = 1");
    }

    private static void restore() {
        Script.run("34 errors", "restore(2) = BAD_VALUE; restore(-1) = BAD_VALUE; restore(LEAST) = BAD_VALUE;"
            + "restore(0) = NOT_POSSIBLE; restore(1) = NOT_POSSIBLE");
        String everything = "count(0) = 8; count(1) = 3; count(6) = 3; count(8) = 1; section(0, 0) = 1; section(0, 1) = 6;"
            + "section(0, 2) = 3; section(0, 3) = 6; section(0, 4) = 1; block(0, 0, 0) = OCCUPIED; block(0, 0, 2) = 0;"
            + "block(0, 0, 3) = 1; block(0, 0, 4) = 10; block(1, 0, 0) = OBSTRUCTED; block(1, 1, 1) = 1; train(0, 0) = 1;"
            + "train(0, 3) = 1; train(0, 5) = 0; train(0, 6) = 0; train(1, 1) = 1; train(2, 0) = 4; train(2, 6) = 6;"
            + "train(2, 2) = IN_LOOP; count(4) = 6; signal(3, 4) = 22; signal(5, 0) = 8; setLoops(1, 0, 3) = 3;"
            + "setLoops(0, 1, 0) = 0;";
        new Script("34 everything").then("setUp(3, 1) = 0; setTime(0, 6) = 5; moveTokens(0, 1) = 4; setLoops(1, 0, 3) = 1;"
            + "setLoops(0, 1, 0) = 1; appear(1, 0) = 0; offer(0) = 4; answer(0, 0, yes) = 4; depart(0) = 6; pass(6) = 6;"
            + "divide(0) = 0; admit(0, 0) = 0; appear(5, 1) = 1; appear(4, 0) = 2; shunt(2) = IN_LOOP; assist(0, 0) = 12;"
            + "pass(2) = 8; offer(1) = 41; obstruct(1, 0) = 0;" + everything + "save(0) = 8").write("o1")
            .then("setUp(6, 6) = 3; setLoops(1, 0, 2) = 1; setTime(0, 9) = 5; appear(2, 0) = 0; work(50) = 1;"
            + "restore(1) = NOT_POSSIBLE; restore(0) = 8;" + everything + "count(7) = 2; fault() = NONE; work(60) = 1;"
            + "setUp(2, 0) = 3; restore(0) = 8;" + everything + "restore(0) = 8;" + everything);
        new Script("34 pad stays").write("o0").then("save(0) = 0; wipe() = 2").write("t1x").then("restore(0) = 0;"
            + "count(7) = 3; fault() = 2");
        Script.run("34 the copy is apart", "appear(1, 0) = 0; save(0) = 0; restore(0) = 0; work(5) = 0; setTime(0, 9) = 5;"
            + "restore(0) = 0; train(0, 2) = ON_LINE; section(0, 1) = 5; count(4) = 0; signal(0, 0) = NONE;"
            + "offer(0) = 4; count(4) = 1; restore(0) = 0; count(9) = 0; count(4) = 0");
        Script.run("34 times of trains", "setUp(2, 0) = 0; pass(3) = 3; appear(1, 0) = 0; work(6) = 1; appear(1, 1) = 1;"
            + "save(1) = 9; setUp(3, 0) = 2; appear(2, 0) = 0; appear(2, 1) = 1; work(20) = 2; restore(1) = 9;"
            + "train(0, 6) = 3; train(0, 7) = 8; train(0, 2) = GONE; train(1, 6) = 9; train(1, 7) = NONE; train(1, 0) = 1");
        Script.run("34 trains appear anew", "appear(1, 0) = 0; save(0) = 0; appear(5, 1) = 1; restore(0) = 0;"
            + "train(1, 0) = NO_SUCH; pass(2) = 2; appear(3, 1) = 1; train(1, 0) = 3; train(1, 6) = 2");
    }
}
