/** The sentences under "What it is" and, of those under "Terms", the ones about the yard, throws and flights. */
final class TermsOfTheYard {
    private static final int TERMS = Sentences.TERMS;

    /** Column and row of a step in each direction. */
    private static final int[][] STEPS = {{1, 0}, {1, 1}, {0, 1}, {-1, 1}, {-1, 0}, {-1, -1}, {0, -1}, {1, -1}};

    private TermsOfTheYard() {
    }

    static void test() {
        calls();
        yard();
        connected();
        throwNumbers();
        flights();
        ends();
    }

    private static void calls() {
        Sentences.plain(Sentences.WHAT_IT_IS, "A court that summons by boomerang: a yard with trees, flights that "
                + "curve, throws that serve a party, pleas that are heard in time, fines and costs, and signatures.");
        Sentences.test(Sentences.WHAT_IT_IS, "An object is used for at most 512 calls after it has been made; what "
                + "later calls answer is free.", c -> {
            c.addParty(4, 0);
            for (int call = 2; call <= 509; call++) {
                c.pass(48);
            }
            Check.due("510th call", true, () -> c.summon(0, 24));
            Check.due("511th call, with hours of five digits", 14, () -> c.describePlea(0));
            Check.due("512th call, with 48 times 508 hours", 24384, () -> c.hour());
        });
    }

    private static void yard() {
        Sentences.test(TERMS, "The yard has 8 columns x and 8 rows y, each numbered from 0 to 7.", c -> {
            int trees = 0;
            for (int y = 0; y < 8; y++) {
                for (int x = y == 0 ? 1 : 0; x < 8; x++) {
                    int column = x;
                    int row = y;
                    trees++;
                    Check.due(x + " " + y, trees, () -> c.setTree(column, row, true));
                }
            }
            Check.due("all but the cell of the bench", -2L, () -> c.treeBits());
            Sentences.noCell(c, (court, x, y) -> court.setTree(x, y, true));
        });
        Sentences.test(TERMS, "The number of the cell in column x and row y is 8 * y + x.", c -> {
            c.setBench(7, 0);
            Check.due("column 7, row 0", 7, () -> c.bench());
            c.setBench(0, 1);
            Check.due("column 0, row 1", 8, () -> c.bench());
            c.setBench(7, 7);
            Check.due("column 7, row 7", 63, () -> c.bench());
            c.setBench(0, 7);
            Check.due("column 0, row 7", 56, () -> c.bench());
            c.setBench(0, 0);
            Check.due("column 0, row 0", 0, () -> c.bench());
        });
        Sentences.test(TERMS, "A set of cells is told as the sum of 2 to the power of the number of each cell, as a "
                + "64-bit integer in two's complement.", c -> {
            Check.due("the empty set", 0L, () -> c.treeBits());
            Check.due("the set of all cells", -1L, () -> c.reach(0, 0));
            c.setTree(7, 3, true);
            Check.due("cell 31", 2147483648L, () -> c.treeBits());
            c.setTree(0, 4, true);
            Check.due("cells 31 and 32", 2147483648L + 4294967296L, () -> c.treeBits());
            c.setTree(7, 7, true);
            Check.due("and 63", Long.MIN_VALUE + 2147483648L + 4294967296L, () -> c.treeBits());
        });
        Sentences.test(TERMS, "The yard has no edges: column 0 follows column 7, and row 0 follows row 7.",
                c -> overTheEdges(c));
        Sentences.test(TERMS, "There are the directions 0 to 7: 0 leads to the next column; 1 to the next column and "
                + "the next row; 2 to the next row; 3 to the previous column and the next row; 4 to the previous "
                + "column; 5 to the previous column and the previous row; 6 to the previous row; and 7 to the next "
                + "column and the previous row.", c -> {
            c.setBench(3, 4);
            for (int direction = 0; direction < 8; direction++) {
                int number = direction;
                int x = 3 + STEPS[direction][0];
                int y = 4 + STEPS[direction][1];
                Check.due("direction " + direction, 8 * y + x, () -> c.flightCell(number, 1));
                Check.due("wind " + direction, 10 * Math.max(0, direction - 1), () -> c.setWind(number, 0));
            }
            Check.badArgument("there is no direction 8", () -> c.setWind(8, 0));
            Check.badArgument("there is no direction -1", () -> c.setWind(-1, 0));
        });
        Sentences.test(TERMS, "Cells can have trees.", c -> {
            Check.due("no tree", 0, () -> c.setTree(5, 5, false));
            for (int cell = 1; cell < 64; cell++) {
                c.setTree(cell % 8, cell / 8, true);
            }
            Check.due("as many as there can be", 63, () -> c.setTree(7, 7, true));
            Check.due("no flight begins", 't', () -> c.flightEnd(63));
            Check.due("the bench's cell is alone", 1L, () -> c.reach(0, 0));
            Check.due("and has no queue", 1L, () -> c.reachByQueue(0, 0));
        });
        Sentences.test(TERMS, "The bench is in a cell without a tree, initially in cell 0.", c -> {
            Check.due("initially", 0, () -> c.bench());
            Check.refused("no tree comes to the bench", c, 3, 0, () -> c.setTree(0, 0, true));
            c.setTree(1, 0, true);
            Check.refused("the bench does not come to a tree", c, 1, 1, () -> c.setBench(1, 0));
            Check.due("still there", 0, () -> c.bench());
            c.setTree(1, 0, false);
            Check.due("when the tree is felled", 0, () -> c.setBench(1, 0));
        });
        Sentences.test(TERMS, "At most 8 parties, numbered from 0, stand in cells without trees, which are not the "
                + "cell of the bench, each in a cell of its own.", c -> {
            c.setTree(3, 3, true);
            Check.refused("a tree", c, 1, 27, () -> c.addParty(3, 3));
            Check.refused("the bench", c, 3, 0, () -> c.addParty(0, 0));
            for (int party = 0; party < 8; party++) {
                int number = party;
                Check.due("party " + party, number, () -> c.addParty(number, 5));
                if (party < 7) {
                    Check.refused("its cell", c, 2, number, () -> c.addParty(number, 5));
                }
            }
            Check.badState("a ninth party", () -> c.addParty(0, 6));
            Check.due("eight parties", 8, () -> c.partyCount());
            Check.refused("no tree comes to a party", c, 2, 7, () -> c.setTree(7, 5, true));
            Check.refused("nor does the bench", c, 2, 0, () -> c.setBench(0, 5));
        });
    }

    private static void overTheEdges(BoomerangCourt c) {
        for (int[] bench : new int[][] {{7, 2}, {0, 2}, {2, 7}, {2, 0}, {7, 7}, {0, 0}, {7, 0}, {0, 7}}) {
            c.setBench(bench[0], bench[1]);
            for (int direction = 0; direction < 8; direction++) {
                int number = direction;
                int cell = Sentences.at(bench[0] + STEPS[direction][0], bench[1] + STEPS[direction][1]);
                Check.due("from " + bench[0] + " " + bench[1] + " in direction " + direction, cell,
                        () -> c.flightCell(number, 1));
            }
        }
        BoomerangCourt corner = new BoomerangCourt();
        for (int i = 0; i < 8; i++) {
            for (int wall : new int[] {2, 5}) {
                corner.setTree(wall, i, true);
                corner.setTree(i, wall, true);
            }
        }
        // The columns and rows 6, 7, 0 and 1 are left round the corner.
        long round = 0xC3C300000000C3C3L;
        for (int[] cell : new int[][] {{0, 0}, {7, 0}, {0, 7}, {7, 7}, {6, 1}}) {
            Check.due("7 reach of " + cell[0] + " " + cell[1], round, () -> corner.reach(cell[0], cell[1]));
            Check.due("8 reach of " + cell[0] + " " + cell[1], round, () -> corner.reachByQueue(cell[0], cell[1]));
        }
    }

    private static void connected() {
        Sentences.test(TERMS, "Two cells without trees are connected if one leads to the other by steps in the "
                + "directions 0, 2, 4 and 6 over cells without trees; parties and the bench do not matter.", c -> {
            // A winding corridor between trees: (4, 3), (4, 4), (5, 4), (5, 5), (4, 5), (3, 5).
            int[][] corridor = {{4, 3}, {4, 4}, {5, 4}, {5, 5}, {4, 5}, {3, 5}};
            long cells = 0;
            for (int[] cell : corridor) {
                cells |= Sentences.bit(cell[0], cell[1]);
            }
            c.setBench(4, 4);
            c.addParty(5, 4);
            c.addParty(4, 5);
            for (int cell = 0; cell < 64; cell++) {
                if ((cells >>> cell & 1) == 0) {
                    c.setTree(cell % 8, cell / 8, true);
                }
            }
            long whole = cells;
            for (int[] cell : corridor) {
                Check.due("from " + cell[0] + " " + cell[1], whole, () -> c.reach(cell[0], cell[1]));
                Check.due("by queue from " + cell[0] + " " + cell[1], whole, () -> c.reachByQueue(cell[0], cell[1]));
            }
            Check.due("a tree is connected with nothing", 0L, () -> c.reach(3, 4));
            Check.due("a tree has no queue", 0L, () -> c.reachByQueue(3, 4));
            // (6, 6) touches (5, 5) at a corner, and (2, 4) touches (3, 5).
            c.setTree(6, 6, false);
            c.setTree(2, 4, false);
            Check.due("corners do not connect", whole, () -> c.reach(3, 5));
            Check.due("corners do not connect in the queue", whole, () -> c.reachByQueue(3, 5));
            Check.due("a cell alone", Sentences.bit(6, 6), () -> c.reach(6, 6));
            Check.due("a cell alone in the queue", Sentences.bit(2, 4), () -> c.reachByQueue(2, 4));
            for (int cell = 0; cell < 64; cell++) {
                stepsFrom(cell % 8, cell / 8);
            }
        });
    }

    /** From each cell, also over the edges, one step leads to four cells, and to none of those behind or between. */
    private static void stepsFrom(int x, int y) {
        for (int direction = 0; direction < 8; direction += 2) {
            int nextX = x + STEPS[direction][0];
            int nextY = y + STEPS[direction][1];
            long both = Sentences.bit(x, y) | Sentences.bit(nextX, nextY);
            BoomerangCourt c = treesOutside(both, x, y);
            String way = "direction " + direction + " from " + x + " " + y;
            Check.due(way, both, () -> c.reach(x, y));
            Check.due(way + " by queue", both, () -> c.reachByQueue(x, y));
        }
        long apart = Sentences.bit(x, y);
        for (int direction = 0; direction < 8; direction++) {
            int far = direction % 2 == 0 ? 2 : 1;
            apart |= Sentences.bit(x + far * STEPS[direction][0], y + far * STEPS[direction][1]);
        }
        BoomerangCourt c = treesOutside(apart, x, y);
        Check.due("alone in " + x + " " + y, Sentences.bit(x, y), () -> c.reach(x, y));
        Check.due("alone by queue in " + x + " " + y, Sentences.bit(x, y), () -> c.reachByQueue(x, y));
    }

    /** A court with the bench in a cell, and with trees in all cells that are not in a set. */
    private static BoomerangCourt treesOutside(long free, int x, int y) {
        BoomerangCourt c = new BoomerangCourt();
        c.setBench(x, y);
        for (int cell = 0; cell < 64; cell++) {
            if ((free >>> cell & 1) == 0) {
                c.setTree(cell % 8, cell / 8, true);
            }
        }
        return c;
    }

    private static void throwNumbers() {
        Sentences.test(TERMS, "There are the throws 0 to 63.", c -> {
            for (int number = 0; number < 64; number++) {
                int there = number;
                Check.due("throw " + number, 'c', () -> c.flightEnd(there));
            }
            Sentences.noThrow(c, (court, number) -> court.flightEnd(number));
        });
        Sentences.test(TERMS, "The direction of a throw is its number modulo 8.", c -> {
            c.setBench(3, 4);
            for (int number = 0; number < 64; number++) {
                int there = number;
                int[] step = STEPS[number % 8];
                Check.due("throw " + number, Sentences.at(3 + step[0], 4 + step[1]), () -> c.flightCell(there, 1));
            }
        });
        Sentences.test(TERMS, "Its arm is 1 plus the number divided by 8, rounded down, modulo 4.", c -> {
            int[] arms = {1, 2, 3, 4, 1, 2, 3, 4};
            for (int eighth = 0; eighth < 8; eighth++) {
                int first = 8 * eighth;
                int last = 8 * eighth + 7;
                int steps = 8 * arms[eighth];
                Check.due("throw " + first, steps, () -> c.flightLength(first));
                Check.due("throw " + last, steps, () -> c.flightLength(last));
            }
        });
        Sentences.test(TERMS, "It curves upwards if its number is less than 32, and downwards otherwise.", c -> {
            c.setBench(3, 3);
            Check.due("throw 0 goes on in direction 1", Sentences.at(5, 4), () -> c.flightCell(0, 2));
            Check.due("throw 31 goes on in direction 0", Sentences.at(3 + 4 + 1, 3 - 4), () -> c.flightCell(31, 5));
            Check.due("throw 32 goes on in direction 7", Sentences.at(5, 2), () -> c.flightCell(32, 2));
            Check.due("throw 63 goes on in direction 6", Sentences.at(3 + 4, 3 - 4 - 1), () -> c.flightCell(63, 5));
        });
    }

    /** Asks for all cells of a flight, for its length, and for the end behind them. */
    private static void flies(BoomerangCourt c, int number, int[][] cells) {
        for (int i = 0; i < cells.length; i++) {
            int steps = i;
            Check.due("throw " + number + " after " + i, Sentences.at(cells[i][0], cells[i][1]),
                    () -> c.flightCell(number, steps));
        }
        Check.due("throw " + number + " in all", cells.length - 1, () -> c.flightLength(number));
        Check.noSuchElement("throw " + number + " further", () -> c.flightCell(number, cells.length));
    }

    private static void flights() {
        Sentences.test(TERMS, "The flight of a throw begins at the bench and has 8 parts.", c -> {
            flies(c, 0, new int[][] {{0, 0}, {1, 0}, {2, 1}, {2, 2}, {1, 3}, {0, 3}, {7, 2}, {7, 1}, {0, 0}});
            c.setBench(7, 7);
            flies(c, 0, new int[][] {{7, 7}, {0, 7}, {1, 0}, {1, 1}, {0, 2}, {7, 2}, {6, 1}, {6, 0}, {7, 7}});
        });
        Sentences.test(TERMS, "In each part, the boomerang makes as many steps in its direction as the arm says.",
                c -> {
            flies(c, 8, new int[][] {{0, 0}, {1, 0}, {2, 0}, {3, 1}, {4, 2}, {4, 3}, {4, 4}, {3, 5}, {2, 6}, {1, 6},
                {0, 6}, {7, 5}, {6, 4}, {6, 3}, {6, 2}, {7, 1}, {0, 0}});
            Check.due("arm 3: straight on", Sentences.at(3, 0), () -> c.flightCell(16, 3));
            Check.due("arm 3: then it turns", Sentences.at(4, 1), () -> c.flightCell(16, 4));
            Check.due("arm 4: straight on", Sentences.at(4, 0), () -> c.flightCell(24, 4));
            Check.due("arm 4: then it turns", Sentences.at(5, 1), () -> c.flightCell(24, 5));
        });
        Sentences.test(TERMS, "Behind each of the first parts, as many of them as the strength of the wind, it makes a "
                + "further step in the direction of the wind.", c -> {
            c.setBench(3, 3);
            c.setWind(6, 0);
            flies(c, 0, new int[][] {{3, 3}, {4, 3}, {5, 4}, {5, 5}, {4, 6}, {3, 6}, {2, 5}, {2, 4}, {3, 3}});
            c.setWind(6, 1);
            flies(c, 0, new int[][] {{3, 3}, {4, 3}, {4, 2}, {5, 3}, {5, 4}, {4, 5}, {3, 5}, {2, 4}, {2, 3}, {3, 2}});
            c.setWind(6, 2);
            flies(c, 0, new int[][] {{3, 3}, {4, 3}, {4, 2}, {5, 3}, {5, 2}, {5, 3}, {4, 4}, {3, 4}, {2, 3}, {2, 2},
                {3, 1}});
            c.setWind(6, 3);
            flies(c, 0, new int[][] {{3, 3}, {4, 3}, {4, 2}, {5, 3}, {5, 2}, {5, 3}, {5, 2}, {4, 3}, {3, 3}, {2, 2},
                {2, 1}, {3, 0}});
            Check.due("arm 4 and strength 3", 35, () -> c.flightLength(63));
            Check.due("arm 4: the wind blows behind the fourth step", Sentences.at(7, 2), () -> c.flightCell(24, 5));
        });
        Sentences.test(TERMS, "Then its direction becomes greater by 1 if the throw curves upwards, and less by 1 "
                + "otherwise, where 0 follows 7.", c -> {
            c.setBench(3, 3);
            flies(c, 7, new int[][] {{3, 3}, {4, 2}, {5, 2}, {6, 3}, {6, 4}, {5, 5}, {4, 5}, {3, 4}, {3, 3}});
            flies(c, 32, new int[][] {{3, 3}, {4, 3}, {5, 2}, {5, 1}, {4, 0}, {3, 0}, {2, 1}, {2, 2}, {3, 3}});
            flies(c, 36, new int[][] {{3, 3}, {2, 3}, {1, 4}, {1, 5}, {2, 6}, {3, 6}, {4, 5}, {4, 4}, {3, 3}});
        });
        Sentences.test(TERMS, "With each step, the boomerang enters a cell.", c -> {
            long octagon = 0;
            for (int[] cell : new int[][] {{1, 0}, {2, 1}, {2, 2}, {1, 3}, {0, 3}, {7, 2}, {7, 1}, {0, 0}}) {
                octagon |= Sentences.bit(cell[0], cell[1]);
            }
            long entered = octagon;
            Check.due("the bench's cell with the last step", entered, () -> c.flightBits(0));
            c.setTree(7, 1, true);
            Check.due("not with the none that it makes before", entered & ~Sentences.bit(7, 1) & ~1L,
                    () -> c.flightBits(0));
            c.setTree(1, 0, true);
            Check.due("no step, no cell", 0L, () -> c.flightBits(0));
        });
    }

    private static void ends() {
        Sentences.test(TERMS, "If it would enter a cell with a tree, the flight ends before this step.", c -> {
            c.setTree(2, 2, true);
            flies(c, 0, new int[][] {{0, 0}, {1, 0}, {2, 1}});
            Check.due("a tree stops it", 't', () -> c.flightEnd(0));
            c.setTree(1, 0, true);
            flies(c, 0, new int[][] {{0, 0}});
            Check.due("at once", 't', () -> c.flightEnd(0));
            // Throw 2 goes to (0, 1), from where the wind would blow it on to (0, 2).
            c.setWind(2, 1);
            c.setTree(0, 2, true);
            flies(c, 2, new int[][] {{0, 0}, {0, 1}});
            Check.due("in the wind", 't', () -> c.flightEnd(2));
            BoomerangCourt d = new BoomerangCourt();
            d.setTree(7, 1, true);
            flies(d, 0, new int[][] {{0, 0}, {1, 0}, {2, 1}, {2, 2}, {1, 3}, {0, 3}, {7, 2}});
            d.setTree(3, 0, true);
            Check.due("within a part of arm 4", 2, () -> d.flightLength(24));
            d.setTree(4, 4, true);
            Check.due("trees beside it do not stop it", 8, () -> d.flightLength(32));
        });
        Sentences.test(TERMS, "If it ends with the eighth part in the cell of the bench, the boomerang is caught; "
                + "otherwise it lies on the ground.", c -> {
            c.setBench(3, 3);
            Check.due("caught", 'c', () -> c.flightEnd(8));
            c.setWind(7, 1);
            Check.due("beside the bench", 'g', () -> c.flightEnd(8));
            // The last step but one of throw 8 leads to the bench, the last one on to (4, 2).
            Check.due("over the bench", Sentences.at(3, 3), () -> c.flightCell(8, 16));
            Check.due("and on", Sentences.at(4, 2), () -> c.flightCell(8, 17));
            c.setTree(4, 2, true);
            Check.due("stopped in the cell of the bench, in the eighth part", 16, () -> c.flightLength(8));
            Check.due("which is no catch", 't', () -> c.flightEnd(8));
            c.setTree(4, 3, true);
            Check.due("stopped at once is no catch either", 't', () -> c.flightEnd(8));
            BoomerangCourt d = new BoomerangCourt();
            Check.due("throw 24 passes the bench", 0, () -> d.flightCell(24, 12));
            Check.due("and comes back all the same", 'c', () -> d.flightEnd(24));
            d.setWind(0, 1);
            Check.due("blown off by one column", 'g', () -> d.flightEnd(0));
        });
        Sentences.test(TERMS, "Parties do not stop flights, but a party is served by a summons for it when the "
                + "boomerang enters its cell for the first time.", c -> {
            // Throw 24 enters (6, 2) with its step 6 and again with its step 14.
            c.addParty(6, 2);
            c.addParty(1, 0);
            Check.due("the first time", Sentences.at(6, 2), () -> c.flightCell(24, 6));
            Check.due("the second time", Sentences.at(6, 2), () -> c.flightCell(24, 14));
            Check.due("over both parties", 32, () -> c.flightLength(24));
            Check.due("and back", 'c', () -> c.flightEnd(24));
            Check.due("over party 1 to party 0", true, () -> c.summon(0, 24));
            Check.due("6 steps", 6.0, () -> c.meanSteps());
            Check.due("a quarter of 6", 1, () -> c.pleaFrom(0));
            Check.due("a summons does not serve another party", 0, () -> c.servedCount(1));
            Check.due("which a summons for it does", true, () -> c.summon(1, 24));
        });
        Sentences.test(TERMS, "The initial wind has the direction 0 and the strength 0.", c -> {
            Check.due("no step of wind", 8, () -> c.flightLength(2));
            Check.due("direction and strength", 0, () -> c.setWind(3, 3));
        });
    }
}
