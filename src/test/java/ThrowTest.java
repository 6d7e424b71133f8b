/** Promises 17 to 27: throws. */
public final class ThrowTest {
    public static void main(String[] args) {
        plainFlights();
        windyFlights();
        stoppedFlights();
        wrongThrows();
        servingThrows();
        bestThrow();
        bestThrowBySteps();
        summon();
        summonOrder();
        summonKeepsOrLoses();
        buyBoomerangs();
        Check.end();
    }

    private static int at(int x, int y) {
        return 8 * y + x;
    }

    private static void cells(BoomerangCourt c, String what, int number, int[] cells) {
        long set = 0;
        for (int i = 0; i < cells.length; i++) {
            int steps = i;
            Check.due(what + " after " + i, cells[i], () -> c.flightCell(number, steps));
            set |= i > 0 ? 1L << cells[i] : 0;
        }
        long entered = set;
        Check.due(what + " length", cells.length - 1, () -> c.flightLength(number));
        Check.noSuchElement(what + " further", () -> c.flightCell(number, cells.length));
        Check.due(what + " bits", entered, () -> c.flightBits(number));
    }

    private static void plainFlights() {
        BoomerangCourt c = new BoomerangCourt();
        // An octagon upwards from the corner: the directions 0, 1, 2 .. 7.
        int[] octagon = {at(0, 0), at(1, 0), at(2, 1), at(2, 2), at(1, 3), at(0, 3), at(7, 2), at(7, 1), at(0, 0)};
        cells(c, "18 throw 0", 0, octagon);
        Check.due("19 throw 0", 'c', () -> c.flightEnd(0));
        // Downwards: the directions 0, 7, 6 .. 1.
        int[] below = {at(0, 0), at(1, 0), at(2, 7), at(2, 6), at(1, 5), at(0, 5), at(7, 6), at(7, 7), at(0, 0)};
        cells(c, "18 throw 32", 32, below);
        Check.due("19 throw 32", 'c', () -> c.flightEnd(32));
        // Direction 5 begins with the previous column and row.
        int[] fifth = {at(0, 0), at(7, 7), at(7, 6), at(0, 5), at(1, 5), at(2, 6), at(2, 7), at(1, 0), at(0, 0)};
        cells(c, "18 throw 5", 5, fifth);
        Check.due("17 arm 4", 32, () -> c.flightLength(24));
        Check.due("17 arm 3", 24, () -> c.flightLength(16 + 32 + 7));
        Check.due("17 arm 2", 16, () -> c.flightLength(15));
        Check.due("17 throw 63", 32, () -> c.flightLength(63));
        Check.due("17 throw 39 has arm 1", 8, () -> c.flightLength(39));
        Check.due("19 throw 63", 'c', () -> c.flightEnd(63));
        Check.due("18 at the bench", 0, () -> c.flightCell(63, 0));
        Check.due("18 arm 4, after 4", at(4, 0), () -> c.flightCell(24, 4));
        Check.due("18 arm 4, after 8", at(0, 4), () -> c.flightCell(24, 8));
        Check.noSuchElement("18 -1 steps", () -> c.flightCell(0, -1));
        Check.noSuchElement("18 many steps", () -> c.flightCell(0, Integer.MAX_VALUE));
    }

    private static void windyFlights() {
        BoomerangCourt c = new BoomerangCourt();
        c.setBench(3, 3);
        c.setWind(2, 2);
        // Arm 1, direction 4, upwards: a step of wind behind the first and the second part.
        int[] flown = {at(3, 3), at(2, 3), at(2, 4), at(1, 3), at(1, 4), at(1, 3), at(2, 2), at(3, 2), at(4, 3),
            at(4, 4), at(3, 5)};
        cells(c, "18 wind", 4, flown);
        Check.due("19 on the ground", 'g', () -> c.flightEnd(4));
        c.setWind(2, 3);
        Check.due("17 arm 4 in strong wind", 35, () -> c.flightLength(24));
        Check.due("17 arm 1 in strong wind", 11, () -> c.flightLength(32));
        Check.due("19 3 below", 'g', () -> c.flightEnd(24));
        Check.due("18 3 below", at(3, 6), () -> c.flightCell(24, 35));
        Check.noSuchElement("18 36 steps", () -> c.flightCell(24, 36));
        c.setWind(2, 0);
        Check.due("19 no wind", 'c', () -> c.flightEnd(24));
    }

    private static void stoppedFlights() {
        BoomerangCourt c = new BoomerangCourt();
        c.addParty(1, 0);
        Check.due("19 parties do not stop flights", 'c', () -> c.flightEnd(0));
        Check.due("17 parties do not stop flights", 8, () -> c.flightLength(0));
        c.setTree(2, 1, true);
        int[] flown = {at(0, 0), at(1, 0)};
        cells(c, "18 tree", 0, flown);
        Check.due("19 tree", 't', () -> c.flightEnd(0));
        c.setTree(0, 1, true);
        Check.due("17 at once", 0, () -> c.flightLength(2));
        Check.due("18 at once", 0, () -> c.flightCell(2, 0));
        Check.noSuchElement("18 at once", () -> c.flightCell(2, 1));
        Check.due("19 at once is no catch", 't', () -> c.flightEnd(2));
        Check.due("20 at once", 0L, () -> c.flightBits(2));
        // The wind can blow into a tree too: throw 4 goes to (7, 0), the wind leads to (7, 1).
        c.setTree(7, 1, true);
        c.setWind(2, 1);
        Check.due("19 blown into a tree", 't', () -> c.flightEnd(4));
        Check.due("17 blown into a tree", 1, () -> c.flightLength(4));
        stoppedInTheLastPart();
    }

    /** A flight that passes the bench goes on; one that a tree stops there is not caught. */
    private static void stoppedInTheLastPart() {
        BoomerangCourt c = new BoomerangCourt();
        // Throw 0 comes back by (7, 1) in the last part, the direction 7 of which leads to the bench.
        c.setTree(7, 1, true);
        Check.due("17 before the seventh part ends", 6, () -> c.flightLength(0));
        Check.due("19 before the seventh part ends", 't', () -> c.flightEnd(0));
        BoomerangCourt d = new BoomerangCourt();
        d.setWind(4, 1);
        // Throw 0: one step to (1, 0), the wind back to (0, 0), then on in direction 1.
        Check.due("18 over the bench", 0, () -> d.flightCell(0, 2));
        Check.due("18 on from the bench", at(1, 1), () -> d.flightCell(0, 3));
        Check.due("20 the bench is entered", 1L, () -> d.flightBits(0) & 1L);
        Check.due("19 on the ground", 'g', () -> d.flightEnd(0));
        d.setTree(1, 1, true);
        Check.due("19 stopped over the bench", 't', () -> d.flightEnd(0));
        Check.due("17 stopped over the bench", 2, () -> d.flightLength(0));
    }

    private static void wrongThrows() {
        BoomerangCourt c = new BoomerangCourt();
        for (int number : new int[] {-1, 64, Integer.MIN_VALUE, Integer.MAX_VALUE}) {
            Check.badArgument("17 throw " + number, () -> c.flightLength(number));
            Check.badArgument("18 throw " + number, () -> c.flightCell(number, 0));
            Check.badArgument("18 throw first " + number, () -> c.flightCell(number, -1));
            Check.badArgument("19 throw " + number, () -> c.flightEnd(number));
            Check.badArgument("20 throw " + number, () -> c.flightBits(number));
        }
    }

    private static void servingThrows() {
        BoomerangCourt c = new BoomerangCourt();
        Check.badIndex("21 no party", () -> c.servingThrows(0));
        Check.badIndex("22 no party", () -> c.servingThrowsBySets(0));
        c.addParty(4, 4);
        c.addParty(1, 0);
        long serving = 0;
        for (int number = 0; number < 64; number++) {
            BoomerangCourt flown = new BoomerangCourt();
            for (int steps = 1; steps <= flown.flightLength(number); steps++) {
                if (flown.flightCell(number, steps) == at(4, 4)) {
                    serving |= 1L << number;
                }
            }
        }
        long want = serving;
        Check.due("21 party 0", want, () -> c.servingThrows(0));
        Check.due("22 party 0", want, () -> c.servingThrowsBySets(0));
        Check.due("21 throw 0 serves party 1", 1L, () -> c.servingThrows(1) & 1L);
        Check.due("22 throw 63 does not serve party 1", c.servingThrowsBySets(1) >= 0, () -> c.servingThrows(1) >= 0);
        c.summon(1, 0);
        Check.due("21 a waiting plea does not matter", 1L, () -> c.servingThrows(1) & 1L);
        for (int party : new int[] {-1, 2, 8}) {
            Check.badIndex("21 party " + party, () -> c.servingThrows(party));
            Check.badIndex("22 party " + party, () -> c.servingThrowsBySets(party));
        }
    }

    private static void bestThrow() {
        BoomerangCourt c = new BoomerangCourt();
        Check.badIndex("23 no party", () -> c.bestThrow(0));
        c.addParty(1, 0);
        Check.due("23 of 0 and 32, both at once", 0, () -> c.bestThrow(0));
        c.addParty(3, 0);
        // Three columns on with arm 1: the directions 7, 0, 1 by throw 7, or 1, 0, 7 by throw 33.
        Check.due("23 of 7 and 33", 7, () -> c.bestThrow(1));
        Check.badIndex("23 party 2", () -> c.bestThrow(2));
        Check.badIndex("23 party -1", () -> c.bestThrow(-1));
        for (int y = 0; y < 8; y++) {
            for (int x = 0; x < 8; x++) {
                boolean isFar = y > 1 && y < 7 || x > 1 && x < 7;
                if (isFar && at(x, y) != at(3, 0)) {
                    c.setTree(x, y, true);
                }
            }
        }
        Check.noSuchElement("23 no throw comes over the trees", () -> c.bestThrow(1));
        Check.due("21 none", 0L, () -> c.servingThrows(1));
        Check.due("22 none", 0L, () -> c.servingThrowsBySets(1));
    }

    private static void bestThrowBySteps() {
        BoomerangCourt c = new BoomerangCourt();
        c.setBench(3, 3);
        c.addParty(4, 4);
        // (4, 4) is one step in direction 1 away: the throws 1 and 33 are quickest, 0 needs more.
        Check.due("23 quickest, then lowest", 1, () -> c.bestThrow(0));
        c.addParty(2, 4);
        Check.due("23 direction 3", 3, () -> c.bestThrow(1));
        c.setTree(0, 0, true);
        c.moveParty(1, 5, 3);
        // (5, 3): in two steps of arm 1 by no throw, as each turns; arm 2 has it in two.
        Check.due("23 the shortest arm goes before the fewest steps", bestByHand(at(5, 3)), () -> c.bestThrow(1));
    }

    /** Asks courts with the same bench and tree, no more than 512 calls of each. */
    private static int bestByHand(int cell) {
        for (int arm = 0; arm < 4; arm++) {
            for (int steps = 1; steps <= 35; steps++) {
                BoomerangCourt c = new BoomerangCourt();
                c.setBench(3, 3);
                c.setTree(0, 0, true);
                for (int number = 0; number < 64; number++) {
                    if (number / 8 % 4 == arm && c.flightLength(number) >= steps
                            && c.flightCell(number, steps) == cell) {
                        return number;
                    }
                }
            }
        }
        return -1;
    }

    private static void summon() {
        BoomerangCourt c = new BoomerangCourt();
        c.addParty(2, 2);
        c.addParty(1, 0);
        Check.due("24 served", true, () -> c.summon(0, 0));
        Check.due("26 the boomerang stays with the party", 9, () -> c.boomerangs());
        Check.due("27 one throw", 1, () -> c.throwCount());
        Check.due("39 the arm is paid", 49, () -> c.coins());
        Check.due("45 the steps to the party", 3.0, () -> c.meanSteps());
        Check.due("16 served", 1, () -> c.servedCount(0));
        Check.due("30 a plea waits", 1, () -> c.pleaCount());
        Check.due("31 of the party", 0, () -> c.pleaParty(0));
        Check.due("24 over the other party, not served", false, () -> c.summon(1, 4 + 24));
        Check.due("26 caught", 9, () -> c.boomerangs());
        Check.due("39 arm 4", 45, () -> c.coins());
        Check.due("27 two throws", 2, () -> c.throwCount());
        Check.due("30 no plea of party 1", 1, () -> c.pleaCount());
        Check.due("16 the other one is not served", 0, () -> c.servedCount(1));
    }

    private static void summonOrder() {
        BoomerangCourt c = new BoomerangCourt();
        Check.badIndex("24 no party", () -> c.summon(0, 0));
        Check.badIndex("24 the party goes before the throw", () -> c.summon(0, 64));
        c.addParty(1, 0);
        Check.badArgument("24 throw 64", () -> c.summon(0, 64));
        Check.badArgument("24 throw -1", () -> c.summon(0, -1));
        Check.badIndex("24 party -1", () -> c.summon(-1, 0));
        Check.noSuchElement("24 nothing was refused", () -> c.refusalReason());
        c.summon(0, 0);
        Check.refused("24 a plea waits", c, 5, 0, () -> c.summon(0, 0));
        Check.badArgument("24 the throw goes before the refusal", () -> c.summon(0, 64));
        c.addParty(4, 3);
        c.addParty(2, 1);
        c.summon(2, 0);
        Check.refused("24 the second plea waits", c, 5, 1, () -> c.summon(2, 0));
        c.setTree(7, 0, true);
        for (int i = 0; i < 8; i++) {
            Check.due("24 into the tree", false, () -> c.summon(1, 4));
        }
        Check.due("26 none left", 0, () -> c.boomerangs());
        Check.refused("24 no boomerang", c, 4, 40, () -> c.summon(1, 4));
        Check.refused("24 reason 4 goes before 5", c, 4, 40, () -> c.summon(0, 0));
        Check.due("27 refused throws do not count", 10, () -> c.throwCount());
        Check.due("45 stopped flights count their steps", (1.0 + 2.0) / 10.0, () -> c.meanSteps());
    }

    private static void summonKeepsOrLoses() {
        BoomerangCourt c = new BoomerangCourt();
        c.addParty(4, 4);
        Check.due("24 caught", false, () -> c.summon(0, 0));
        Check.due("26 kept", 10, () -> c.boomerangs());
        c.setWind(0, 1);
        Check.due("24 on the ground", false, () -> c.summon(0, 0));
        Check.due("26 lost on the ground", 9, () -> c.boomerangs());
        c.setTree(1, 0, true);
        Check.due("24 stopped", false, () -> c.summon(0, 0));
        Check.due("26 lost at the tree", 8, () -> c.boomerangs());
        Check.due("39 each costs its arm", 47, () -> c.coins());
        for (int i = 0; i < 8; i++) {
            c.summon(0, 24);
        }
        Check.due("39 coins can be owed", 15, () -> c.coins());
        Check.due("25 buy", 5, () -> c.buyBoomerangs(5));
        for (int i = 0; i < 5; i++) {
            c.summon(0, 24);
        }
        Check.due("39 less than 0", -15, () -> c.coins());
        Check.refused("24 the detail is the debt", c, 4, -15, () -> c.summon(0, 24));
        Check.badState("25 debts buy nothing", () -> c.buyBoomerangs(1));
    }

    private static void buyBoomerangs() {
        BoomerangCourt c = new BoomerangCourt();
        for (int count : new int[] {0, -1, 21, Integer.MAX_VALUE, Integer.MIN_VALUE}) {
            Check.badArgument("25 count " + count, () -> c.buyBoomerangs(count));
        }
        Check.due("25 buy 1", 11, () -> c.buyBoomerangs(1));
        Check.due("39 coins", 48, () -> c.coins());
        Check.due("25 buy 20", 31, () -> c.buyBoomerangs(20));
        Check.due("26 boomerangs", 31, () -> c.boomerangs());
        Check.due("39 coins", 8, () -> c.coins());
        Check.badState("25 buy 5 for 10", () -> c.buyBoomerangs(5));
        Check.badArgument("25 the range goes before the coins", () -> c.buyBoomerangs(21));
        Check.due("25 buy 4 for 8", 35, () -> c.buyBoomerangs(4));
        Check.due("39 nothing left", 0, () -> c.coins());
        Check.badState("25 buy 1 for 2", () -> c.buyBoomerangs(1));
        Check.due("40 accounts", 0, () -> c.coinsByAccounts());
    }
}
