/** Promises 8 to 12: trains. */
public final class TrainsTest {
    public static void main(String[] args) {
        appear();
        train();
        shunt();
        leave();
        divide();
        Script.end();
    }

    private static void appear() {
        Script.run("8 range", "appear(0, 0) = BAD_VALUE; appear(6, 0) = BAD_VALUE; appear(1, -1) = BAD_VALUE;"
            + "appear(1, 2) = BAD_VALUE; appear(LEAST, 0) = BAD_VALUE; appear(1, MOST) = BAD_VALUE; count(1) = 0");
        Script.run("8 lines", "appear(1, 0) = 0; appear(5, 0) = NOT_POSSIBLE; appear(5, 1) = 1; appear(1, 1) = NOT_POSSIBLE;"
            + "train(0, 3) = 0; train(1, 3) = 3; train(1, 0) = 5; train(1, 1) = 1; shunt(0) = IN_LOOP; appear(2, 0) = 2;"
            + "count(1) = 3; appear(0, 0) = BAD_VALUE");
        // A line that is free for the other direction is not the same line.
        Script.run("8 directions", "setUp(2, 0) = 0; appear(1, 0) = 0; offer(0) = 4; answer(0, 0, yes) = 4; depart(0) = 5;"
            + "pass(5) = 5; admit(0, 0) = 0; appear(1, 1) = 1; appear(1, 0) = 2");
        Script twelve = new Script("8 twelve trains").then("setUp(2, 0) = 0; setTime(0, 1) = 5");
        for (int i = 0; i < 12; i++) {
            twelve.then("appear(1, 0) = " + i + "; work(2) = 1; count(2) = " + (i + 1));
        }
        twelve.then("appear(1, 0) = TOO_MANY; appear(1, 1) = TOO_MANY; appear(6, 0) = BAD_VALUE; count(1) = 12;"
            + "train(11, 2) = GONE; train(12, 2) = NO_SUCH; setUp(4, 0) = 12; appear(1, 0) = 0");
        Script full = new Script("8 too many before not free").then("setUp(2, 0) = 0; setTime(0, 1) = 5");
        for (int i = 0; i < 11; i++) {
            full.then("appear(1, 0) = " + i + "; work(2) = 1");
        }
        full.then("appear(1, 0) = 11; appear(1, 0) = TOO_MANY");
    }

    private static void train() {
        Script.run("9", "train(0, 0) = NO_SUCH; train(0, 9) = NO_SUCH; pass(3) = 3; appear(3, 1) = 0; train(0, 0) = 3;"
            + "train(0, 1) = 1; train(0, 2) = ON_LINE; train(0, 3) = 3; train(0, 4) = 0; train(0, 5) = 1; train(0, 6) = 3;"
            + "train(0, 7) = NONE; train(0, 8) = BAD_VALUE; train(0, -1) = BAD_VALUE; train(1, 0) = NO_SUCH;"
            + "train(-1, 0) = NO_SUCH; train(MOST, 0) = NO_SUCH; train(LEAST, 0) = NO_SUCH; shunt(0) = IN_LOOP;"
            + "train(0, 2) = IN_LOOP; train(0, 3) = 3; shunt(0) = ON_LINE; offer(0) = 5; answer(2, 1, yes) = 5;"
            + "depart(0) = 7; train(0, 2) = RUNNING; train(0, 3) = 2; train(0, 4) = 7; pass(2) = 5; train(0, 4) = 5;"
            + "divide(0) = 2; train(0, 5) = 0; pass(9) = 14; train(0, 4) = 0; admit(2, 1) = 0; train(0, 2) = ON_LINE;"
            + "train(0, 3) = 2; work(50) = 1; train(0, 2) = GONE; train(0, 3) = NONE; train(0, 4) = 0; train(0, 5) = 0;"
            + "train(0, 6) = 3; train(0, 7) = 28");
    }

    private static void shunt() {
        Script.run("10 to a loop and back", "shunt(0) = NO_SUCH; appear(1, 0) = 0; shunt(-1) = NO_SUCH; shunt(1) = NO_SUCH;"
            + "shunt(0) = IN_LOOP; shunt(0) = ON_LINE; shunt(0) = IN_LOOP; appear(1, 0) = 1; shunt(1) = NOT_POSSIBLE;"
            + "shunt(0) = NOT_POSSIBLE; offer(0) = NOT_POSSIBLE; depart(0) = NOT_POSSIBLE; setLoops(0, 0, 2) = 1;"
            + "shunt(1) = IN_LOOP; appear(1, 0) = 2; shunt(2) = NOT_POSSIBLE; setLoops(0, 0, 3) = 2; shunt(2) = IN_LOOP;"
            + "shunt(1) = ON_LINE; shunt(0) = NOT_POSSIBLE; train(1, 2) = ON_LINE");
        Script.run("10 no loops", "setLoops(0, 0, 0) = 1; appear(1, 0) = 0; shunt(0) = NOT_POSSIBLE; train(0, 2) = ON_LINE");
        Script.run("10 offered and accepted", "appear(1, 0) = 0; offer(0) = 4; shunt(0) = NOT_POSSIBLE;"
            + "answer(0, 0, no) = 1; shunt(0) = IN_LOOP; shunt(0) = ON_LINE; offer(0) = 4; answer(0, 0, yes) = 4;"
            + "shunt(0) = NOT_POSSIBLE; cancel(0, 0) = 35; shunt(0) = IN_LOOP; shunt(0) = ON_LINE; offer(0) = 4;"
            + "obstruct(0, 0) = NORMAL; shunt(0) = IN_LOOP; shunt(0) = ON_LINE; lift(0, 0) = 13; offer(0) = 4;"
            + "answer(0, 0, yes) = 4; depart(0) = 5; shunt(0) = NOT_POSSIBLE; pass(5) = 5; shunt(0) = NOT_POSSIBLE;"
            + "work(30) = 1; shunt(0) = NOT_POSSIBLE");
        // Train 0 waits in the loop of box 1; the block of section 0 decides whether it may go back.
        String inLoop = "appear(1, 0) = 0; offer(0) = 4; answer(0, 0, yes) = 4; depart(0) = 5; pass(5) = 5;"
            + "admit(0, 0) = 0; shunt(0) = IN_LOOP;";
        Script.run("10 block behind it", inLoop + "shunt(0) = NOT_POSSIBLE; out(0, 0) = 21; shunt(0) = ON_LINE;"
            + "shunt(0) = IN_LOOP; appear(2, 0) = 1; offer(1) = 31; shunt(0) = ON_LINE; answer(0, 0, yes) = NOT_POSSIBLE;"
            + "shunt(0) = IN_LOOP; answer(0, 0, yes) = 31; shunt(0) = NOT_POSSIBLE; obstruct(0, 0) = CLEAR;"
            + "shunt(0) = ON_LINE; shunt(0) = IN_LOOP; lift(0, 0) = 13; offer(1) = 31; answer(0, 0, yes) = 31;"
            + "depart(1) = 6; shunt(0) = NOT_POSSIBLE; pass(6) = 11; admit(0, 0) = 1; out(0, 0) = 21;"
            + "shunt(0) = NOT_POSSIBLE; shunt(1) = NOT_POSSIBLE");
        Script.run("10 other blocks do not matter", inLoop + "out(0, 0) = 21; appear(1, 1) = 1; offer(1) = 4;"
            + "answer(2, 1, yes) = 4; depart(1) = 5; pass(5) = 10; admit(2, 1) = 1; offer(1) = 4; answer(1, 1, yes) = 4;"
            + "depart(1) = 5; shunt(0) = ON_LINE; offer(0) = 4; answer(1, 0, yes) = 4; depart(0) = 5; appear(1, 0) = 2;"
            + "shunt(2) = IN_LOOP; shunt(2) = ON_LINE");
        Script.run("10 loops of each direction", "setUp(2, 0) = 0; setLoops(1, 0, 0) = 1; setLoops(0, 1, 0) = 1;"
            + "appear(1, 0) = 0; appear(1, 1) = 1; shunt(0) = IN_LOOP; shunt(1) = IN_LOOP; shunt(0) = ON_LINE;"
            + "shunt(1) = ON_LINE; setLoops(1, 1, 0) = 1; shunt(1) = NOT_POSSIBLE; shunt(0) = IN_LOOP;"
            + "setLoops(1, 1, 2) = 0; shunt(1) = IN_LOOP; appear(1, 1) = 2; shunt(2) = IN_LOOP");
        Script.run("10 direction 1", "setUp(3, 0) = 0; appear(1, 1) = 0; shunt(0) = IN_LOOP; shunt(0) = ON_LINE; offer(0) = 4;"
            + "answer(1, 1, yes) = 4; depart(0) = 5; pass(5) = 5; admit(1, 1) = 0; shunt(0) = IN_LOOP;"
            + "shunt(0) = NOT_POSSIBLE; out(1, 1) = 21; shunt(0) = ON_LINE");
    }

    private static void leave() {
        Script.run("11", "leave(0) = NO_SUCH; leave(-1) = NO_SUCH; setUp(2, 0) = 0; pass(4) = 4; appear(1, 0) = 0;"
            + "leave(0) = NOT_POSSIBLE; offer(0) = 4; answer(0, 0, yes) = 4; depart(0) = 5; pass(5) = 9;"
            + "leave(0) = NOT_POSSIBLE; admit(0, 0) = 0; shunt(0) = IN_LOOP; leave(0) = NOT_POSSIBLE; out(0, 0) = 21;"
            + "shunt(0) = ON_LINE; pass(2) = 11; leave(0) = 7; train(0, 7) = 11; leave(0) = NOT_POSSIBLE; leave(1) = NO_SUCH;"
            + "count(2) = 1; count(4) = 4");
        Script.run("11 before it is out", "setUp(2, 1) = 0; appear(1, 1) = 0; leave(0) = NOT_POSSIBLE; offer(0) = 4;"
            + "answer(0, 1, yes) = 4; depart(0) = 5; pass(5) = 5; admit(0, 1) = 0; leave(0) = 5; block(0, 1, 0) = OCCUPIED;"
            + "block(0, 1, 2) = 0; section(0, 4) = 1; out(0, 1) = 21; block(0, 1, 2) = NONE");
        Script.run("11 at once", "setUp(2, 0) = 0; appear(1, 1) = 0; offer(0) = 4; leave(0) = NOT_POSSIBLE");
    }

    private static void divide() {
        Script.run("12", "divide(0) = NO_SUCH; divide(-1) = NO_SUCH; appear(1, 1) = 0; divide(0) = NOT_POSSIBLE;"
            + "shunt(0) = IN_LOOP; divide(0) = NOT_POSSIBLE; shunt(0) = ON_LINE; offer(0) = 4; answer(2, 1, yes) = 4;"
            + "depart(0) = 5; divide(0) = 2; divide(0) = NOT_POSSIBLE; count(8) = 1; block(2, 1, 3) = 1;"
            + "block(2, 0, 3) = 0; train(0, 5) = 0; train(0, 4) = 5; pass(5) = 5; admit(2, 1) = 0; out(2, 1) = NOT_POSSIBLE;"
            + "assist(2, 1) = 10; pass(10) = 15; count(8) = 0; train(0, 5) = 0; out(2, 1) = 21; offer(0) = 4;"
            + "answer(1, 1, yes) = 4; depart(0) = 5; divide(0) = NOT_POSSIBLE; work(30) = 1; divide(0) = NOT_POSSIBLE");
        Script.run("12 with 0 ticks left", "appear(1, 0) = 0; offer(0) = 4; answer(0, 0, yes) = 4; depart(0) = 5; pass(9) = 9;"
            + "divide(0) = 0; admit(0, 0) = 0; count(8) = 1; count(4) = 3");
    }
}
