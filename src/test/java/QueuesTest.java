/** What the document tells under BOATS, sentence by sentence, each with its edges. */
public final class QueuesTest {
    public static void main(String[] args) {
        sixteenBoats();
        numberedFromZero();
        piecesOfABoat();
        draughtOfABoat();
        fromOnePoundToAnother();
        piecesLieTogether();
        agroundWhereItIs();
        agroundInTheNextPound();
        agroundNowhereElse();
        agroundInTwoPounds();
        agroundIsLookedAtAgain();
        queueOnEitherSide();
        queueIsJoinedAtTheEnd();
        queueOfTheNextLock();
        queueWhenAllPiecesHaveCome();
        queueOfNoneInItsGoal();
        inTheQueueUntilTheLastPiece();
        Check.end();
    }

    private static void sixteenBoats() {
        Check.says(0, "At most 16 boats come ever,");
        CanalSteps x = new CanalSteps();
        for (int i = 0; i < 15; i++) {
            Check.due("boat " + i, x.boat(1 + i % 6, i % 5, i % 5 + 1, 1), i);
            x.pass(i + 5);
        }
        Check.due("the 16th", x.boat(1, 0, 1, 1), 15);
        Check.due("no 17th", x.boat(1, 0, 1, 1), -3);
        x.pass(99);
        Check.due("all have arrived", x.count(2), 16);
        Check.due("no 17th then either", x.boat(1, 0, 1, 1), -3);
        Check.due("16 came", x.count(1), 16);
        Check.due("there is no boat 16", x.boatOf(16, 0), -1);
    }

    private static void numberedFromZero() {
        Check.says(0, "numbered from 0;");
        CanalSteps x = new CanalSteps();
        Check.due("the first", x.boat(1, 0, 1, 1), 0);
        Check.due("it is told", x.boatOf(0, 0), 1);
        Check.due("there is no boat 1 yet", x.boatOf(1, 0), -1);
        Check.due("one that is refused takes no number", x.boat(1, 0, 0, 1), -2);
        Check.due("the second", x.boat(1, 0, 1, 1), 1);
        x.undo();
        Check.due("the second again", x.boat(1, 0, 1, 1), 1);
    }

    private static void piecesOfABoat() {
        Check.says(0, "each is a barge (of 1 piece) or a raft of 2 to 6 pieces,");
        CanalSteps x = new CanalSteps();
        Check.due("of no piece", x.boat(0, 0, 1, 1), -2);
        for (int pieces = 1; pieces <= 6; pieces++) {
            Check.due("of " + pieces, x.boat(pieces, 0, 1, 1), pieces - 1);
            Check.due("told", x.boatOf(pieces - 1, 0), pieces);
        }
        Check.due("of 7", x.boat(7, 0, 1, 1), -2);
    }

    private static void draughtOfABoat() {
        Check.says(0, "has a draught (1 to 60),");
        CanalSteps x = new CanalSteps();
        Check.due("0", x.boat(1, 0, 1, 0), -2);
        Check.due("1", x.boat(1, 0, 1, 1), 0);
        Check.due("60", x.boat(1, 0, 1, 60), 1);
        Check.due("61", x.boat(1, 0, 1, 61), -2);
        Check.due("told", x.boatOf(0, 1) * 100 + x.boatOf(1, 1), 160);
    }

    private static void fromOnePoundToAnother() {
        Check.says(0, "and goes from one pound to another one, its goal.");
        for (int from = -1; from <= 6; from++) {
            for (int to = -1; to <= 6; to++) {
                boolean known = from >= 0 && from <= 5 && to >= 0 && to <= 5;
                int due = from == to ? -2 : 0;
                CanalSteps x = new CanalSteps();
                Check.due("from " + from + " to " + to, x.boat(1, from, to, 1), known ? due : -1);
                if (known && from != to) {
                    Check.due("where it is", x.boatOf(0, 2), from);
                    Check.due("its goal", x.boatOf(0, 3), to);
                    Check.due("it arrives", x.pass(99), 1);
                    Check.due("there", x.boatOf(0, 2), to);
                }
            }
        }
    }

    private static void piecesLieTogether() {
        Check.says(0, "All pieces are in one pound, or in two that are beside one another.");
        int[][] ways = {{0, 5}, {5, 0}};
        for (int[] way : ways) {
            CanalSteps x = new CanalSteps();
            x.set(1, 1);
            x.boat(3, way[0], way[1], 1);
            int ticks = 0;
            while (x.boatOf(0, 5) == 0 && ticks < 99) {
                int here = x.boatOf(0, 2);
                int next = here + (way[1] > way[0] ? 1 : -1);
                for (int pound = 0; pound < 6; pound++) {
                    boolean there = pound == here || pound == next && x.boatOf(0, 4) > 0;
                    Check.due("tick " + ticks + ", pound " + pound, x.pound(pound, 1), there ? 1 : 0);
                }
                Check.due("never all in the next pound", x.boatOf(0, 4) < 3 ? 1 : 0, 1);
                x.pass(1);
                ticks++;
            }
            Check.due("it arrives", x.pound(way[1], 2), 1);
            Check.due("in no pound under way", x.pound(way[0], 1) + x.pound(way[1], 1), 0);
        }
    }

    /** One boat of this draught, from 2 to 3 or to 1 or beyond, in a canal without spring. */
    private static CanalSteps oneBoat(int from, int to, int draught) {
        CanalSteps x = Check.withoutSpring();
        x.boat(1, from, to, draught);
        return x;
    }

    private static void lies(String what, CanalSteps x, boolean aground) {
        Check.due(what + ": counted", x.count(3), aground ? 1 : 0);
        Check.due(what + ": the reason", x.reason(0) == 2 ? 1 : 0, aground ? 1 : 0);
    }

    private static void agroundWhereItIs() {
        Check.says(0, "A boat lies aground if a pound in which it has pieces,");
        for (int to = 0; to < 6; to++) {
            if (to != 2) {
                CanalSteps x = oneBoat(2, to, 30);
                x.setDepth(2, 30);
                lies("as deep as its draught", x, false);
                x.setDepth(2, 29);
                lies("one less", x, true);
                x.load(0, 29);
                lies("lightened", x, false);
                x.setDepth(2, 0);
                lies("no water", x, true);
            }
        }
    }

    private static void agroundInTheNextPound() {
        Check.says(0, "or the next one on its way, has less depth than its draught.");
        for (int to = 0; to < 6; to++) {
            if (to != 2) {
                int next = to > 2 ? 3 : 1;
                CanalSteps x = oneBoat(2, to, 30);
                x.setDepth(next, 30);
                lies("as deep as its draught", x, false);
                x.setDepth(next, 29);
                lies("one less", x, true);
                x.setDepth(next, 0);
                lies("no water", x, true);
            }
        }
    }

    private static void agroundNowhereElse() {
        Check.says(0, "A boat lies aground if a pound in which it has pieces, or the next one on its way,");
        for (int to = 0; to < 6; to++) {
            if (to != 2) {
                int next = to > 2 ? 3 : 1;
                CanalSteps x = oneBoat(2, to, 40);
                for (int pound = 0; pound < 6; pound++) {
                    if (pound != 2 && pound != next) {
                        x.setDepth(pound, 0);
                    }
                }
                lies("behind it and beyond the next one there is no water", x, false);
            }
        }
    }

    private static void agroundInTwoPounds() {
        Check.says(0, "A boat lies aground if a pound in which it has pieces,");
        for (int to = 1; to <= 3; to += 2) {
            CanalSteps x = Check.withoutSpring();
            x.turnLock(1);
            x.boat(3, 2, to, 30);
            x.pass(1);
            Check.due("in two pounds", x.boatOf(0, 4), 2);
            x.pass(1);
            Check.due("in two pounds still", x.boatOf(0, 4), 2);
            x.setDepth(2, 30);
            x.setDepth(to, 30);
            Check.due("afloat", x.count(3), 0);
            x.setDepth(2, 29);
            lies("too little where it comes from", x, true);
            x.setDepth(2, 30);
            x.setDepth(to, 29);
            lies("too little where it goes", x, true);
            Check.due("its last piece stays", x.pass(9) + x.boatOf(0, 4), 2);
            x.setDepth(2, 40);
            x.setDepth(to, 40);
            lies("enough in both", x, false);
            Check.due("it goes on", x.pass(1), 1);
        }
    }

    private static void agroundIsLookedAtAgain() {
        Check.says(0, "or the next one on its way, has less depth than its draught.");
        CanalSteps x = Check.withoutSpring();
        x.setDepth(3, 20);
        x.boat(1, 1, 3, 30);
        lies("the pound 3 is not the next one yet", x, false);
        x.pass(1);
        Check.due("it is in the pound 2", x.boatOf(0, 2), 2);
        lies("the pound 3 is the next one now", x, true);
        x.setDepth(1, 0);
        x.setDepth(3, 40);
        lies("the pound 1 is behind it", x, false);
    }

    private static void queueOnEitherSide() {
        Check.says(0, "At each lock there is a queue on either side;");
        for (int k = 0; k < 5; k++) {
            CanalSteps x = new CanalSteps();
            Check.due("both are empty", x.lock(k, 1) + x.lock(k, 2), 0);
            Check.due("no first one below", x.lock(k, 3), -5);
            Check.due("no first one above", x.lock(k, 4), -5);
            x.boat(1, k + 1, k, 1);
            Check.due("one above", x.lock(k, 1) * 10 + x.lock(k, 2), 1);
            x.boat(1, k, k + 1, 1);
            x.boat(1, k, k + 1, 1);
            Check.due("two below, one above", x.lock(k, 1) * 10 + x.lock(k, 2), 21);
            Check.due("the first ones", x.lock(k, 3) * 10 + x.lock(k, 4), 10);
            Check.due("the place below", x.boatOf(1, 7) * 10 + x.boatOf(2, 7), 1);
            Check.due("the place above", x.boatOf(0, 7), 0);
        }
    }

    private static void queueIsJoinedAtTheEnd() {
        Check.says(0, "joins the queue of the next lock on its way, at the end (in that pound).");
        CanalSteps x = Check.withoutSpring();
        x.boat(1, 1, 2, 1);
        x.boat(1, 1, 2, 1);
        x.boat(1, 0, 2, 1);
        Check.due("the boat of the pound 0 is not there yet", x.lock(1, 1), 2);
        x.pass(1);
        Check.due("one went, one came", x.lock(1, 1), 2);
        Check.due("the one that waited is the first", x.lock(1, 3), 1);
        Check.due("the one that came is behind it", x.boatOf(2, 7), 1);
        x.boat(1, 1, 5, 1);
        Check.due("a new boat is behind both", x.boatOf(3, 7), 2);
        x.boat(1, 1, 0, 1);
        Check.due("on the other side of the pound is another queue", x.boatOf(4, 7) * 10 + x.boatOf(4, 6), 0);
    }

    private static void queueOfTheNextLock() {
        Check.says(0, "joins the queue of the next lock on its way,");
        for (int from = 0; from < 6; from++) {
            for (int to = 0; to < 6; to++) {
                if (from != to) {
                    CanalSteps x = new CanalSteps();
                    x.boat(1, from, to, 1);
                    Check.due("up or down", x.boatOf(0, 6), from < to ? from : from - 1);
                    Check.due("in that pound", x.lock(x.boatOf(0, 6), from < to ? 1 : 2), 1);
                }
            }
        }
    }

    private static void queueWhenAllPiecesHaveCome() {
        Check.says(0, "a boat that has come into a pound with all of its pieces,");
        CanalSteps x = Check.withoutSpring();
        x.boat(3, 0, 2, 1);
        x.pass(1);
        Check.due("two pieces have come", x.boatOf(0, 4), 2);
        Check.due("not in the queue of the lock 1", x.lock(1, 1), 0);
        x.boat(1, 1, 2, 1);
        x.pass(2);
        Check.due("all have come", x.boatOf(0, 2), 1);
        Check.due("in the queue of the lock 1", x.lock(1, 1) * 10 + x.lock(1, 3), 10);
        Check.due("not in that of the lock 0", x.lock(0, 1), 0);
    }

    private static void queueOfNoneInItsGoal() {
        Check.says(0, "and whose goal that is not,");
        CanalSteps x = Check.withoutSpring();
        x.boat(1, 0, 1, 1);
        x.boat(1, 2, 1, 1);
        x.pass(2);
        Check.due("both have arrived", x.count(2), 2);
        for (int lock = 0; lock < 5; lock++) {
            Check.due("no queue has them", x.lock(lock, 1) + x.lock(lock, 2), 0);
        }
        Check.due("no lock", x.boatOf(0, 6), -5);
        Check.due("no place", x.boatOf(0, 7), -5);
    }

    private static void inTheQueueUntilTheLastPiece() {
        Check.says(0, "A boat is in that queue until its last piece is through the lock.");
        CanalSteps x = Check.withoutSpring();
        x.set(1, 1);
        x.boat(3, 0, 1, 1);
        x.boat(1, 0, 1, 1);
        for (int pieces = 1; pieces <= 2; pieces++) {
            x.pass(1);
            Check.due("pieces that are through", x.boatOf(0, 4), pieces);
            Check.due("it is the first still", x.lock(0, 3) * 10 + x.lock(0, 1), 2);
            Check.due("the other one is behind it", x.boatOf(1, 7) * 10 + x.reason(1), 13);
            x.pass(1);
        }
        Check.due("the last piece", x.pass(1), 1);
        Check.due("the other one is the first", x.lock(0, 3) * 10 + x.lock(0, 1), 11);
        Check.due("its place", x.boatOf(1, 7), 0);
    }
}
