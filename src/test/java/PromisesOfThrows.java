/** The sentences of the promises 17 to 27: throws. */
final class PromisesOfThrows {
    private static final String NUMBER = "- `number`: the number of the throw, 0 to 63";
    private static final String PARTY = "- `party`: the party";
    private static final String NO_PARTY = "Throws `IndexOutOfBoundsException` if there is no such party";
    private static final String NO_THROW = "Throws `IllegalArgumentException` if there is no such throw";

    private PromisesOfThrows() {
    }

    static void test() {
        flightLength();
        flightCell();
        flightEnd();
        flightBits();
        servingThrows();
        bestThrow();
        summon();
        buyBoomerangs();
        counts();
    }

    /** Trees in all eight cells round the bench in cell 0. */
    private static void wallIn(BoomerangCourt c) {
        for (int[] cell : new int[][] {{1, 0}, {1, 1}, {0, 1}, {7, 1}, {7, 0}, {7, 7}, {0, 7}, {1, 7}}) {
            c.setTree(cell[0], cell[1], true);
        }
    }

    private static void flightLength() {
        Sentences.test(17, "Returns the number of steps of the flight of a throw from the bench.", c -> {
            Check.due("the shortest without trees", 8, () -> c.flightLength(0));
            c.setWind(1, 3);
            Check.due("the longest", 35, () -> c.flightLength(24));
            c.setTree(6, 2, true);
            c.setWind(1, 0);
            Check.due("up to a tree", 5, () -> c.flightLength(24));
            Check.due("away from it", 8, () -> c.flightLength(32));
            c.addParty(1, 0);
            Check.due("not up to a party", 8, () -> c.flightLength(0));
        });
        Sentences.test(17, NUMBER, c -> {
            c.setTree(1, 0, true);
            Check.due("0 is the first", 0, () -> c.flightLength(0));
            Check.due("63 is the last", 32, () -> c.flightLength(63));
            Check.badArgument("-1", () -> c.flightLength(-1));
            Check.badArgument("64", () -> c.flightLength(64));
        });
        Sentences.test(17, "Returns the number of steps, 0 if a tree stops it at once.", c -> {
            wallIn(c);
            for (int number : new int[] {0, 1, 2, 3, 4, 5, 6, 7, 24, 32, 63}) {
                Check.due("throw " + number, 0, () -> c.flightLength(number));
            }
            c.setTree(1, 0, false);
            c.setTree(2, 0, true);
            Check.due("1 if it is stopped then", 1, () -> c.flightLength(8));
        });
        Sentences.test(17, NO_THROW, c -> Sentences.noThrow(c, (d, number) -> d.flightLength(number)));
    }

    private static void flightCell() {
        Sentences.plain(18, "Returns the number of the cell.");
        Sentences.test(18, "Returns the cell in which the boomerang of a throw is after some steps.", c -> {
            int[] cells = {0, 1, 10, 18, 25, 24, 23, 15, 0};
            for (int i = 0; i < cells.length; i++) {
                int steps = i;
                Check.due("after " + i, cells[i], () -> c.flightCell(0, steps));
            }
            c.setBench(7, 7);
            Check.due("from the last cell", 63, () -> c.flightCell(0, 8));
        });
        Sentences.test(18, NUMBER, c -> {
            Check.due("0 is the first", 1, () -> c.flightCell(0, 1));
            Check.due("63 is the last", Sentences.at(4, 4), () -> c.flightCell(63, 4));
            Check.badArgument("-1", () -> c.flightCell(-1, 0));
            Check.badArgument("64", () -> c.flightCell(64, 0));
        });
        Sentences.test(18, "- `steps`: the number of steps, 0 for the cell of the bench", c -> {
            Check.due("bench in cell 0", 0, () -> c.flightCell(5, 0));
            c.setBench(7, 7);
            Check.due("bench in cell 63", 63, () -> c.flightCell(5, 0));
            c.setTree(6, 6, true);
            Check.due("also if a tree stops it at once", 63, () -> c.flightCell(5, 0));
        });
        Sentences.test(18, NO_THROW, c -> {
            Sentences.noThrow(c, (d, number) -> d.flightCell(number, 0));
            Sentences.noThrow(c, (d, number) -> d.flightCell(number, 36));
            Sentences.noThrow(c, (d, number) -> d.flightCell(number, -1));
        });
        Sentences.test(18, "Throws `NoSuchElementException` if the flight does not have as many steps", c -> {
            steps(c, 0, 8);
            steps(c, 63, 32);
            c.setWind(0, 3);
            steps(c, 24, 35);
            c.setWind(0, 0);
            c.setTree(2, 1, true);
            steps(c, 0, 1);
            c.setTree(1, 0, true);
            steps(c, 0, 0);
            Check.noSuchElement("-1", () -> c.flightCell(0, -1));
            Check.noSuchElement("the greatest", () -> c.flightCell(1, Integer.MAX_VALUE));
            Check.noSuchElement("the least", () -> c.flightCell(1, Integer.MIN_VALUE));
        });
    }

    private static void steps(BoomerangCourt c, int number, int last) {
        Check.due(last + " steps", false, () -> Check.answerOf(() -> c.flightCell(number, last)) instanceof String);
        Check.noSuchElement((last + 1) + " steps", () -> c.flightCell(number, last + 1));
    }

    private static void flightEnd() {
        Sentences.test(19, "Returns how the flight of a throw ends if nobody is served.", c -> {
            c.addParty(1, 0);
            c.addParty(7, 1);
            Check.due("over two parties", 'c', () -> c.flightEnd(0));
            c.summon(0, 0);
            Check.due("also when a plea waits", 'c', () -> c.flightEnd(0));
        });
        Sentences.test(19, NUMBER, c -> {
            c.setTree(1, 0, true);
            Check.due("0 is the first", 't', () -> c.flightEnd(0));
            Check.due("63 is the last", 'c', () -> c.flightEnd(63));
            Check.badArgument("-1", () -> c.flightEnd(-1));
            Check.badArgument("64", () -> c.flightEnd(64));
        });
        Sentences.test(19, "Returns 'c' if the boomerang is caught, 't' if a tree stops it, or 'g' if it lies on the "
                + "ground.", c -> {
            Check.due("caught", 'c', () -> c.flightEnd(0));
            c.setWind(0, 1);
            Check.due("on the ground", 'g', () -> c.flightEnd(0));
            // With arm 1 in this wind, the last step of throw 0 leads from (0, 1) to (1, 0).
            Check.due("the last step", Sentences.at(1, 0), () -> c.flightCell(0, 9));
            c.setTree(0, 1, true);
            Check.due("before the last step but one", 7, () -> c.flightLength(0));
            Check.due("stopped", 't', () -> c.flightEnd(0));
            wallIn(c);
            Check.due("stopped at once, in the bench's cell", 't', () -> c.flightEnd(0));
        });
        Sentences.test(19, NO_THROW, c -> Sentences.noThrow(c, (d, number) -> d.flightEnd(number)));
    }

    private static void flightBits() {
        Sentences.plain(20, "Returns the set.");
        Sentences.test(20, "Returns the set of the cells that the boomerang of a throw enters.", c -> {
            Check.due("eight cells, the bench's with the last step", 1L << 1 | 1L << 10 | 1L << 18 | 1L << 25 | 1L << 24
                    | 1L << 23 | 1L << 15 | 1L, () -> c.flightBits(0));
            c.setBench(7, 6);
            Check.due("the last cell is in the sum", true, () -> (c.flightBits(2) & Long.MIN_VALUE) != 0);
            c.setTree(7, 7, true);
            Check.due("a tree's cell is not, and the bench's is not left", 0L, () -> c.flightBits(2));
            // Throw 24 comes to (6, 2) twice from the first cell.
            BoomerangCourt d = new BoomerangCourt();
            long cells = 0;
            for (int steps = 1; steps <= 32; steps++) {
                cells |= 1L << d.flightCell(24, steps);
            }
            long entered = cells;
            Check.due("each cell once", entered, () -> d.flightBits(24));
            Check.due("fewer cells than steps", true, () -> Long.bitCount(entered) < 32);
        });
        Sentences.test(20, NUMBER, c -> {
            c.setTree(1, 0, true);
            Check.due("0 is the first", 0L, () -> c.flightBits(0));
            Check.due("63 is the last", true, () -> (c.flightBits(63) >>> 57 & 1) == 1);
            Check.badArgument("-1", () -> c.flightBits(-1));
            Check.badArgument("64", () -> c.flightBits(64));
        });
        Sentences.test(20, NO_THROW, c -> Sentences.noThrow(c, (d, number) -> d.flightBits(number)));
    }

    private static void servingThrows() {
        Sentences.plain(21, "Returns the set.");
        Sentences.plain(22, "Returns the set.");
        Sentences.test(21, "Returns the set of the throws that would serve a party, found by letting each of them fly: "
                + "the sum of 2 to the power of the number of each of these throws, as a 64-bit integer in two's "
                + "complement.", c -> serving(c, (d, party) -> d.servingThrows(party)));
        Sentences.test(21, PARTY, c -> servingParties(c, (d, party) -> d.servingThrows(party)));
        Sentences.test(21, NO_PARTY, c -> Sentences.noParty(c, (d, party) -> d.servingThrows(party)));
        Sentences.test(22, "Returns the same set as servingThrows(), found by looking in the sets of cells that the "
                + "boomerangs enter.", c -> serving(c, (d, party) -> d.servingThrowsBySets(party)));
        Sentences.test(22, PARTY, c -> servingParties(c, (d, party) -> d.servingThrowsBySets(party)));
        Sentences.test(22, NO_PARTY, c -> Sentences.noParty(c, (d, party) -> d.servingThrowsBySets(party)));
    }

    private static void serving(BoomerangCourt c, Sentences.NumberCall call) {
        eachCell(call);
        c.addParty(1, 7);
        // The throws 7, 15, 23 .. 63 enter (1, 7) with their first step, others later or never.
        long first = 1L << 7 | 1L << 15 | 1L << 23 | 1L << 31 | 1L << 39 | 1L << 47 | 1L << 55 | 1L << 63;
        Check.due("the first steps, 63 among them", first, () -> (Long) call.with(c, 0) & first);
        long all = first;
        for (int number = 0; number < 64; number++) {
            BoomerangCourt d = new BoomerangCourt();
            for (int steps = 1; steps <= d.flightLength(number); steps++) {
                all |= d.flightCell(number, steps) == 57 ? 1L << number : 0;
            }
        }
        long serving = all;
        Check.due("all that enter the cell", serving, () -> call.with(c, 0));
        Check.due("which are more", true, () -> Long.bitCount(serving) > 8);
        c.summon(0, 7);
        Check.due("also when a plea waits", serving, () -> call.with(c, 0));
        c.moveParty(0, 4, 4);
        wallIn(c);
        Check.due("none over trees", 0L, () -> call.with(c, 0));
        c.setTree(1, 1, false);
        c.moveParty(0, 1, 1);
        Check.due("the throws of direction 1", 1L << 1 | 1L << 9 | 1L << 17 | 1L << 25 | 1L << 33 | 1L << 41 | 1L << 49
                | 1L << 57, () -> call.with(c, 0));
        c.setTree(7, 7, false);
        c.moveParty(0, 7, 7);
        // Direction 1 leads on from (1, 1), but with arm 4 not round the yard to (7, 7).
        Check.due("throw 5 and the others of its direction", 1L << 5 | 1L << 13 | 1L << 21 | 1L << 29 | 1L << 37
                | 1L << 45 | 1L << 53 | 1L << 61, () -> (Long) call.with(c, 0) & 0x2020202020202020L);
    }

    /** A party in each cell in turn, from two benches; the flights are asked of other courts, step by step. */
    private static void eachCell(Sentences.NumberCall call) {
        for (int bench : new int[] {0, 29}) {
            long[] serving = new long[64];
            for (int number = 0; number < 64; number++) {
                BoomerangCourt flown = benchIn(bench);
                int length = flown.flightLength(number);
                for (int steps = 1; steps <= length; steps++) {
                    serving[flown.flightCell(number, steps)] |= 1L << number;
                }
            }
            BoomerangCourt c = benchIn(bench);
            c.addParty(2, 6);
            for (int cell = 0; cell < 64; cell++) {
                if (cell != bench) {
                    int there = cell;
                    c.moveParty(0, cell % 8, cell / 8);
                    Check.due("bench in " + bench + ", party in " + cell, serving[there], () -> call.with(c, 0));
                }
            }
        }
    }

    private static BoomerangCourt benchIn(int cell) {
        BoomerangCourt c = new BoomerangCourt();
        c.setBench(cell % 8, cell / 8);
        return c;
    }

    private static void servingParties(BoomerangCourt c, Sentences.NumberCall call) {
        Sentences.addPartiesRoundTheBench(c);
        Check.due("0 is the first: throw 0", 1L, () -> (Long) call.with(c, 0) & 1L);
        Check.due("7 is the last: throw 63", Long.MIN_VALUE, () -> (Long) call.with(c, 7) & Long.MIN_VALUE);
    }

    private static void bestThrow() {
        Sentences.plain(23, "Returns the number of the throw.");
        Sentences.test(23, "Returns the best throw at a party: of the throws that would serve it, the one with the "
                + "shortest arm; of several the one that serves it after the fewest steps; of several the one with the "
                + "lowest number.", c -> {
            c.addParty(4, 0);
            for (int cell = 1; cell < 64; cell++) {
                int x = cell % 8;
                int y = cell / 8;
                c.moveParty(0, x, y);
                Check.due("cell " + cell, bestByHand(x, y), () -> c.bestThrow(0));
            }
            c.moveParty(0, 1, 0);
            Check.due("0, as good as 32", 0, () -> c.bestThrow(0));
            c.moveParty(0, 1, 7);
            Check.due("7, as good as 39, and quicker than 0", 7, () -> c.bestThrow(0));
            c.moveParty(0, 2, 7);
            // (2, 7) comes after 2 steps by 7 and by 32; 7 is the lower one.
            Check.due("7 again", 7, () -> c.bestThrow(0));
            c.setTree(1, 7, true);
            Check.due("32, when 7 is stopped", 32, () -> c.bestThrow(0));
            BoomerangCourt walled = new BoomerangCourt();
            wallIn(walled);
            walled.setTree(7, 7, false);
            walled.addParty(4, 4);
            // Only direction 5 is free: (7, 7), (6, 6), (5, 5), (4, 4) need arm 4.
            walled.setTree(7, 6, true);
            walled.setTree(6, 7, true);
            walled.setTree(5, 6, true);
            walled.setTree(6, 5, true);
            Check.due("29, as no shorter arm serves", 29, () -> walled.bestThrow(0));
            walled.setTree(7, 1, false);
            Check.due("11, whose arm is shorter, though it serves later, as 43 does", 11, () -> walled.bestThrow(0));
            Check.due("after 10 steps", Sentences.at(4, 4), () -> walled.flightCell(11, 10));
            Check.due("43 after 10 steps", Sentences.at(4, 4), () -> walled.flightCell(43, 10));
        });
        Sentences.test(23, PARTY, c -> {
            Sentences.addPartiesRoundTheBench(c);
            for (int party = 0; party < 8; party++) {
                int number = party;
                Check.due("party " + party, number, () -> c.bestThrow(number));
            }
        });
        Sentences.test(23, NO_PARTY, c -> Sentences.noParty(c, (d, party) -> d.bestThrow(party)));
        Sentences.test(23, "Throws `NoSuchElementException` if no throw would serve the party", c -> {
            c.addParty(3, 3);
            c.addParty(4, 4);
            wallIn(c);
            Check.noSuchElement("over trees", () -> c.bestThrow(1));
            Check.noSuchElement("nor the other one", () -> c.bestThrow(0));
            c.setTree(1, 1, false);
            c.setTree(2, 2, true);
            c.setTree(1, 2, true);
            c.setTree(2, 1, true);
            Check.noSuchElement("with one way that ends", () -> c.bestThrow(1));
            c.moveParty(1, 1, 1);
            Check.due("at whose end it stands", 1, () -> c.bestThrow(1));
        });
    }

    /** By asking each flight of a new court, in the order of the sentence. */
    private static int bestByHand(int x, int y) {
        for (int arm = 1; arm <= 4; arm++) {
            for (int steps = 1; steps <= 8 * arm; steps++) {
                BoomerangCourt c = new BoomerangCourt();
                for (int number = 0; number < 64; number++) {
                    int armOfThrow = 1 + number % 32 / 8;
                    if (armOfThrow == arm && c.flightCell(number, steps) == 8 * y + x) {
                        return number;
                    }
                }
            }
        }
        return -1;
    }

    private static void summon() {
        Sentences.test(24, "Throws a boomerang with a summons for a party from the bench.", c -> {
            c.addParty(1, 0);
            c.summon(0, 0);
            Check.due("one throw", 1, () -> c.throwCount());
            Check.due("one boomerang less", 9, () -> c.boomerangs());
            Check.due("one coin less", 49, () -> c.coins());
            Check.due("one step", 1.0, () -> c.meanSteps());
            c.setBench(6, 6);
            c.addParty(7, 6);
            Check.due("from where the bench is now", true, () -> c.summon(1, 0));
        });
        Sentences.test(24, PARTY, c -> {
            Sentences.addPartiesRoundTheBench(c);
            Check.due("0 is the first", true, () -> c.summon(0, 0));
            Check.due("7 is the last", true, () -> c.summon(7, 7));
            Check.due("party 7 was meant", 7, () -> c.pleaParty(1));
        });
        Sentences.test(24, NUMBER, c -> {
            c.addParty(1, 0);
            c.addParty(1, 7);
            Check.due("0 is the first", true, () -> c.summon(0, 0));
            Check.due("63 is the last", true, () -> c.summon(1, 63));
            c.pass(25);
            Check.badArgument("-1", () -> c.summon(0, -1));
            Check.badArgument("64", () -> c.summon(0, 64));
        });
        Sentences.test(24, "Returns whether the party is served.", c -> {
            c.addParty(1, 0);
            c.addParty(7, 1);
            c.addParty(0, 1);
            Check.due("another way", false, () -> c.summon(0, 2));
            Check.due("with the first step", true, () -> c.summon(0, 0));
            Check.due("with the last step but one", true, () -> c.summon(1, 0));
            c.setWind(2, 1);
            Check.due("the last step", Sentences.at(0, 1), () -> c.flightCell(0, 9));
            Check.due("with the last step, on the ground", true, () -> c.summon(2, 0));
            c.pass(27);
            c.setWind(0, 0);
            c.setTree(2, 2, true);
            Check.due("stopped before", false, () -> c.summon(1, 0));
        });
        Sentences.test(24, NO_PARTY, c -> Sentences.noParty(c, (d, party) -> d.summon(party, 0)));
        Sentences.test(24, NO_THROW, c -> {
            c.addParty(1, 0);
            Sentences.noThrow(c, (d, number) -> d.summon(0, number));
            c.summon(0, 0);
            Sentences.noThrow(c, (d, number) -> d.summon(0, number));
            Check.due("one throw alone", 1, () -> c.throwCount());
        });
        Sentences.test(24, "Throws `UnsupportedOperationException` if it is refused; the reason is kept", c -> {
            c.addParty(1, 0);
            c.addParty(4, 3);
            c.summon(0, 0);
            Check.refused("a plea waits", c, 5, 0, () -> c.summon(0, 0));
            c.setTree(7, 0, true);
            for (int i = 0; i < 9; i++) {
                c.summon(1, 4);
            }
            Check.refused("no boomerang", c, 4, 40, () -> c.summon(1, 4));
            Check.due("refused throws do not count", 10, () -> c.throwCount());
            Check.due("nor do they cost", 40, () -> c.coins());
            Check.due("nor serve", 1, () -> c.servedCount(0));
            Check.due("nor go below 0", 0, () -> c.boomerangs());
        });
    }

    private static void buyBoomerangs() {
        Sentences.test(25, "Buys boomerangs, each for 2 coins.", c -> {
            c.buyBoomerangs(1);
            Check.due("1 for 2", 48, () -> c.coins());
            c.buyBoomerangs(20);
            Check.due("20 for 40", 8, () -> c.coins());
            Check.due("31 in all", 31, () -> c.boomerangs());
            Check.due("by the accounts", 8, () -> c.coinsByAccounts());
        });
        Sentences.test(25, "- `count`: the number of boomerangs, 1 to 20", c -> {
            Check.due("1 is the least", 11, () -> c.buyBoomerangs(1));
            Check.due("20 is the most", 31, () -> c.buyBoomerangs(20));
            Check.badArgument("0", () -> c.buyBoomerangs(0));
            Check.badArgument("21", () -> c.buyBoomerangs(21));
        });
        Sentences.test(25, "Returns the number of boomerangs after the call.", c -> {
            Check.due("12", 12, () -> c.buyBoomerangs(2));
            c.addParty(1, 0);
            c.summon(0, 0);
            Check.due("12 again", 12, () -> c.buyBoomerangs(1));
        });
        Sentences.test(25, "Throws `IllegalArgumentException` if the number is out of range", c -> {
            for (int count : new int[] {0, -1, 21, 22, -20, Integer.MAX_VALUE, Integer.MIN_VALUE, 1 << 30, 1 << 31}) {
                Check.badArgument("count " + count, () -> c.buyBoomerangs(count));
            }
            Check.due("nothing was bought", 10, () -> c.boomerangs());
            c.buyBoomerangs(20);
            c.buyBoomerangs(5);
            Check.badArgument("21 without coins", () -> c.buyBoomerangs(21));
            Check.badArgument("0 without coins", () -> c.buyBoomerangs(0));
        });
        Sentences.test(25, "Throws `IllegalStateException` if the court has fewer coins than that", c -> {
            c.buyBoomerangs(20);
            Check.badState("12 coins for 10", () -> c.buyBoomerangs(6));
            Check.due("10 coins for 10", 35, () -> c.buyBoomerangs(5));
            Check.badState("2 coins for 0", () -> c.buyBoomerangs(1));
            c.addParty(1, 0);
            c.summon(0, 0);
            Check.badState("2 coins for a debt", () -> c.buyBoomerangs(1));
            Check.due("nothing was paid", -1, () -> c.coins());
            BoomerangCourt d = new BoomerangCourt();
            d.addParty(1, 0);
            d.summon(0, 0);
            d.buyBoomerangs(20);
            Check.badState("10 coins for 9", () -> d.buyBoomerangs(5));
            Check.due("8 coins for 9", 33, () -> d.buyBoomerangs(4));
            Check.badState("2 coins for 1", () -> d.buyBoomerangs(1));
        });
    }

    private static void counts() {
        Sentences.plain(26, "Returns the number of boomerangs.");
        Sentences.test(26, "Returns the number of boomerangs of the court.", c -> {
            c.addParty(4, 3);
            c.setTree(1, 0, true);
            for (int left = 10; left >= 0; left--) {
                int boomerangs = left;
                Check.due("left " + left, boomerangs, () -> c.boomerangs());
                Check.answerOf(() -> c.summon(0, 0));
            }
            Check.due("never less than 0", 0, () -> c.boomerangs());
            c.buyBoomerangs(20);
            Check.due("20 of 20", 20, () -> c.boomerangs());
        });
        Sentences.plain(27, "Returns the number of throws.");
        Sentences.test(27, "Returns the number of throws so far.", c -> {
            Check.due("none", 0, () -> c.throwCount());
            c.addParty(1, 0);
            c.summon(0, 0);
            Check.due("one that serves", 1, () -> c.throwCount());
            Check.answerOf(() -> c.summon(0, 0));
            Check.due("a refused one does not count", 1, () -> c.throwCount());
            c.addParty(4, 3);
            c.summon(1, 0);
            Check.due("one that is caught", 2, () -> c.throwCount());
            c.setTree(1, 1, true);
            c.summon(1, 1);
            Check.due("one that is stopped at once", 3, () -> c.throwCount());
        });
    }
}
