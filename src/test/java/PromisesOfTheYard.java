/** The sentences of the promises 1 to 16: a new object, the yard and parties. */
final class PromisesOfTheYard {
    private static final String COLUMN = "- `x`: the column, 0 to 7";
    private static final String ROW = "- `y`: the row, 0 to 7";
    private static final String NO_CELL = "Throws `IndexOutOfBoundsException` if there is no such cell";
    private static final String NO_PARTY = "Throws `IndexOutOfBoundsException` if there is no such party";
    private static final String REFUSED = "Throws `UnsupportedOperationException` if it is refused; the reason is kept";

    private PromisesOfTheYard() {
    }

    static void test() {
        newObject();
        setTree();
        setBench();
        treeSets();
        reach();
        setWind();
        addParty();
        moveParty();
        lookUps();
        servedCount();
    }

    private static void newObject() {
        Sentences.test(1, "Creates a court with an empty yard, without parties, at hour 0.", c -> {
            Check.due("no trees", 0L, () -> c.treeBits());
            Check.due("no parties", 0, () -> c.partyCount());
            Check.badIndex("no party 0", () -> c.cellOf(0));
            Check.due("hour 0", 0, () -> c.hour());
            Check.due("no pleas", 0, () -> c.pleaCount());
            Check.due("no throws", 0, () -> c.throwCount());
            Check.badState("no changes", () -> c.undo());
            Check.badState("no snapshot", () -> c.restore());
            BoomerangCourt other = new BoomerangCourt();
            other.setTree(1, 1, true);
            other.addParty(2, 2);
            other.pass(1);
            other.save();
            Check.badState("no snapshot of another court", () -> c.restore());
            Check.due("no trees of another court", 0L, () -> new BoomerangCourt().treeBits());
            Check.due("no parties of another court", 0, () -> new BoomerangCourt().partyCount());
        });
    }

    private static void setTree() {
        Sentences.test(2, "Plants a tree in a cell, or fells it.", c -> {
            c.setTree(3, 2, true);
            Check.due("planted", 1L << 19, () -> c.treeBits());
            c.setTree(3, 2, true);
            Check.due("planted again", 1L << 19, () -> c.treeBits());
            c.setTree(3, 2, false);
            Check.due("felled", 0L, () -> c.treeBits());
            c.setTree(3, 2, false);
            Check.due("felled again", 0L, () -> c.treeBits());
        });
        Sentences.test(2, COLUMN, c -> {
            c.setBench(4, 4);
            c.setTree(0, 3, true);
            Check.due("0 is the first", 1L << 24, () -> c.treeBits());
            c.setTree(7, 3, true);
            Check.due("7 is the last", 1L << 24 | 1L << 31, () -> c.treeBits());
            Sentences.noColumn(c, (d, x, y) -> d.setTree(x, y, true));
            Sentences.noColumn(c, (d, x, y) -> d.setTree(x, y, false));
        });
        Sentences.test(2, ROW, c -> {
            c.setTree(3, 0, true);
            Check.due("0 is the first", 1L << 3, () -> c.treeBits());
            c.setTree(3, 7, true);
            Check.due("7 is the last", 1L << 3 | 1L << 59, () -> c.treeBits());
            Sentences.noRow(c, (d, x, y) -> d.setTree(x, y, true));
            Sentences.noRow(c, (d, x, y) -> d.setTree(x, y, false));
        });
        Sentences.test(2, "- `isTree`: whether a tree is in the cell after the call", c -> {
            c.setTree(7, 7, true);
            Check.due("true", Long.MIN_VALUE, () -> c.treeBits());
            c.setTree(7, 7, false);
            Check.due("false", 0L, () -> c.treeBits());
        });
        Sentences.test(2, "Returns the number of trees after the call.", c -> {
            Check.due("none", 0, () -> c.setTree(1, 1, false));
            Check.due("the first", 1, () -> c.setTree(1, 1, true));
            Check.due("the first again", 1, () -> c.setTree(1, 1, true));
            for (int cell = 1; cell < 64; cell++) {
                c.setTree(cell % 8, cell / 8, true);
            }
            Check.due("as many as there can be", 63, () -> c.setTree(7, 7, true));
            Check.due("one less", 62, () -> c.setTree(7, 7, false));
        });
        Sentences.test(2, NO_CELL, c -> Sentences.noCell(c, (d, x, y) -> d.setTree(x, y, true)));
        Sentences.test(2, REFUSED, c -> {
            c.addParty(7, 7);
            Check.refused("a party", c, 2, 0, () -> c.setTree(7, 7, true));
            Check.refused("the bench", c, 3, 0, () -> c.setTree(0, 0, true));
            Check.due("no tree was planted", 0L, () -> c.treeBits());
        });
    }

    private static void setBench() {
        Sentences.test(3, "Moves the bench to a cell.", c -> {
            c.setBench(6, 5);
            Check.due("there", 46, () -> c.bench());
            c.setBench(6, 5);
            Check.due("still there", 46, () -> c.bench());
            Check.due("no longer where it was", 1, () -> c.setTree(0, 0, true));
            Check.refused("but here", c, 3, 46, () -> c.setTree(6, 5, true));
        });
        Sentences.test(3, COLUMN, c -> {
            c.setBench(7, 3);
            Check.due("7 is the last", 31, () -> c.bench());
            c.setBench(0, 3);
            Check.due("0 is the first", 24, () -> c.bench());
            Sentences.noColumn(c, (d, x, y) -> d.setBench(x, y));
        });
        Sentences.test(3, ROW, c -> {
            c.setBench(3, 7);
            Check.due("7 is the last", 59, () -> c.bench());
            c.setBench(3, 0);
            Check.due("0 is the first", 3, () -> c.bench());
            Sentences.noRow(c, (d, x, y) -> d.setBench(x, y));
        });
        Sentences.test(3, "Returns the number of the cell in which it was.", c -> {
            Check.due("0 at first", 0, () -> c.setBench(7, 7));
            Check.due("63", 63, () -> c.setBench(7, 7));
            Check.due("63 again", 63, () -> c.setBench(1, 0));
            Check.due("1", 1, () -> c.setBench(0, 0));
        });
        Sentences.test(3, NO_CELL, c -> Sentences.noCell(c, (d, x, y) -> d.setBench(x, y)));
        Sentences.test(3, REFUSED, c -> {
            c.setTree(7, 7, true);
            c.addParty(1, 0);
            Check.refused("a tree", c, 1, 63, () -> c.setBench(7, 7));
            Check.refused("a party", c, 2, 0, () -> c.setBench(1, 0));
            Check.due("the bench is where it was", 0, () -> c.bench());
        });
        Sentences.plain(10, "Returns the number of the cell.");
        Sentences.test(10, "Returns the cell of the bench.", c -> {
            Check.due("the first cell", 0, () -> c.bench());
            c.setBench(7, 7);
            Check.due("the last cell", 63, () -> c.bench());
            c.undo();
            Check.due("the first again", 0, () -> c.bench());
        });
    }

    private static void treeSets() {
        for (int promise = 4; promise <= 6; promise++) {
            Sentences.plain(promise, "Returns the set.");
        }
        Sentences.test(4, "Returns the set of the cells with trees.", c -> {
            Check.due("empty", 0L, () -> c.treeBits());
            c.setTree(7, 7, true);
            Check.due("the last cell", Long.MIN_VALUE, () -> c.treeBits());
            for (int cell = 1; cell < 64; cell++) {
                c.setTree(cell % 8, cell / 8, true);
            }
            Check.due("all but the bench's", -2L, () -> c.treeBits());
            c.setTree(1, 0, false);
            c.setBench(1, 0);
            c.setTree(0, 0, true);
            Check.due("the first cell", -3L, () -> c.treeBits());
        });
        Sentences.test(5, "Returns the set of the cells with trees when the yard is turned by a quarter, by which the "
                + "cell in column x and row y comes to column 7 - y and row x; found by exchanging groups of bits.",
                c -> turned(c, d -> d.turnedTrees()));
        Sentences.test(6, "Returns the same set as turnedTrees(), found cell by cell.",
                c -> turned(c, d -> d.turnedTreesByCells()));
    }

    interface SetCall {
        long of(BoomerangCourt court);
    }

    private static void turned(BoomerangCourt c, SetCall call) {
        Check.due("empty", 0L, () -> call.of(c));
        int[][] corners = {{0, 0}, {7, 0}, {7, 7}, {0, 7}};
        for (int i = 0; i < 4; i++) {
            BoomerangCourt d = new BoomerangCourt();
            d.setBench(4, 4);
            int[] next = corners[(i + 1) % 4];
            d.setTree(corners[i][0], corners[i][1], true);
            Check.due("corner " + i, Sentences.bit(next[0], next[1]), () -> call.of(d));
        }
        long row = 0;
        for (int x = 0; x < 8; x++) {
            c.setTree(x, 1, true);
            row |= Sentences.bit(6, x);
        }
        long column = row;
        Check.due("row 1 comes to column 6", column, () -> call.of(c));
        c.setTree(0, 5, true);
        Check.due("and (0, 5) to (2, 0)", column | Sentences.bit(2, 0), () -> call.of(c));
        for (int cell = 1; cell < 64; cell++) {
            c.setTree(cell % 8, cell / 8, true);
        }
        Check.due("all but the bench's, which comes to (7, 0)", ~Sentences.bit(7, 0), () -> call.of(c));
        for (int cell = 1; cell < 64; cell++) {
            BoomerangCourt d = new BoomerangCourt();
            int x = cell % 8;
            int y = cell / 8;
            d.setTree(x, y, true);
            Check.due("cell " + cell, Sentences.bit(7 - y, x), () -> call.of(d));
        }
    }

    private static void reach() {
        Sentences.test(7, "Returns the set of the cells that are connected with a cell, found for all cells at once by "
                + "moving sets.", c -> reached(c, (d, x, y) -> d.reach(x, y)));
        Sentences.test(7, COLUMN, c -> {
            column(c, (d, x, y) -> d.reach(x, y));
            Sentences.noColumn(c, (d, x, y) -> d.reach(x, y));
        });
        Sentences.test(7, ROW, c -> {
            row(c, (d, x, y) -> d.reach(x, y));
            Sentences.noRow(c, (d, x, y) -> d.reach(x, y));
        });
        Sentences.test(7, "Returns the set, empty if a tree is in the cell.", c -> {
            c.setTree(7, 7, true);
            Check.due("empty", 0L, () -> c.reach(7, 7));
            Check.due("all others", Long.MAX_VALUE, () -> c.reach(0, 0));
            c.setTree(7, 7, false);
            Check.due("not empty without it", -1L, () -> c.reach(7, 7));
        });
        Sentences.test(7, NO_CELL, c -> Sentences.noCell(c, (d, x, y) -> d.reach(x, y)));
        Sentences.test(8, "Returns the same set as reach(), found with a queue of cells.",
                c -> reached(c, (d, x, y) -> d.reachByQueue(x, y)));
        Sentences.test(8, COLUMN, c -> {
            column(c, (d, x, y) -> d.reachByQueue(x, y));
            Sentences.noColumn(c, (d, x, y) -> d.reachByQueue(x, y));
        });
        Sentences.test(8, ROW, c -> {
            row(c, (d, x, y) -> d.reachByQueue(x, y));
            Sentences.noRow(c, (d, x, y) -> d.reachByQueue(x, y));
        });
        Sentences.test(8, "Returns the set.", c -> {
            c.setTree(7, 7, true);
            Check.due("empty at a tree", 0L, () -> c.reachByQueue(7, 7));
            Check.due("all others", Long.MAX_VALUE, () -> c.reachByQueue(0, 0));
        });
        Sentences.test(8, NO_CELL, c -> Sentences.noCell(c, (d, x, y) -> d.reachByQueue(x, y)));
    }

    /** A long way: a snake through the rows 0, 2, 4 and 6, between walls in column 7 and row 7. */
    private static void reached(BoomerangCourt c, Sentences.CellCall call) {
        Check.due("all cells of an empty yard", -1L, () -> call.with(c, 7, 0));
        for (int i = 0; i < 8; i++) {
            c.setTree(i, 7, true);
            c.setTree(7, i, true);
        }
        for (int x = 0; x < 6; x++) {
            c.setTree(x, 1, true);
            c.setTree(x + 1, 3, true);
            c.setTree(x, 5, true);
        }
        long snake = 0x007F407F017F407FL;
        c.addParty(6, 1);
        Check.due("from its beginning", snake, () -> call.with(c, 0, 0));
        Check.due("from its end", snake, () -> call.with(c, 0, 6));
        Check.due("from a party in it", snake, () -> call.with(c, 6, 1));
        Check.due("from a tree beside it", 0L, () -> call.with(c, 5, 1));
        c.moveParty(0, 0, 6);
        c.setTree(6, 1, true);
        Check.due("cut off", 0x7FL, () -> call.with(c, 3, 0));
        Check.due("the rest", snake & ~0xFFFFL, () -> call.with(c, 3, 2));
    }

    private static void column(BoomerangCourt c, Sentences.CellCall call) {
        for (int y = 0; y < 8; y++) {
            c.setTree(1, y, true);
            c.setTree(6, y, true);
        }
        c.setTree(7, 3, true);
        Check.due("0 is the first", 0x8181818101818181L, () -> call.with(c, 0, 3));
        Check.due("7 is the last", 0L, () -> call.with(c, 7, 3));
    }

    private static void row(BoomerangCourt c, Sentences.CellCall call) {
        for (int x = 0; x < 8; x++) {
            c.setTree(x, 1, true);
            c.setTree(x, 6, true);
        }
        c.setTree(3, 7, true);
        Check.due("0 is the first", 0xF7000000000000FFL, () -> call.with(c, 3, 0));
        Check.due("7 is the last", 0L, () -> call.with(c, 3, 7));
    }

    private static void setWind() {
        Sentences.test(9, "Sets the wind.", c -> {
            c.setWind(2, 1);
            Check.due("it blows", Sentences.at(1, 1), () -> c.flightCell(0, 2));
            c.setWind(2, 0);
            Check.due("it blows no more", Sentences.at(2, 1), () -> c.flightCell(0, 2));
        });
        Sentences.test(9, "- `direction`: the direction, 0 to 7", c -> {
            c.setWind(0, 1);
            Check.due("0 is the first", Sentences.at(2, 0), () -> c.flightCell(0, 2));
            c.setWind(7, 1);
            Check.due("7 is the last", Sentences.at(2, 7), () -> c.flightCell(0, 2));
            Check.badArgument("-1", () -> c.setWind(-1, 1));
            Check.badArgument("8", () -> c.setWind(8, 1));
        });
        Sentences.test(9, "- `strength`: the strength, 0 to 3", c -> {
            c.setWind(5, 3);
            Check.due("3 is the greatest", 11, () -> c.flightLength(0));
            c.setWind(5, 0);
            Check.due("0 is the least", 8, () -> c.flightLength(0));
            Check.badArgument("-1", () -> c.setWind(5, -1));
            Check.badArgument("4", () -> c.setWind(5, 4));
        });
        Sentences.test(9, "Returns 10 times the direction before the call plus the strength before it.", c -> {
            Check.due("0 and 0 at first", 0, () -> c.setWind(7, 0));
            Check.due("7 and 0", 70, () -> c.setWind(0, 3));
            Check.due("0 and 3", 3, () -> c.setWind(7, 3));
            Check.due("7 and 3", 73, () -> c.setWind(7, 3));
            Check.due("7 and 3 again", 73, () -> c.setWind(0, 0));
        });
        Sentences.test(9, "Throws `IllegalArgumentException` if the direction or the strength is out of range", c -> {
            c.setWind(4, 2);
            for (int far : new int[] {-1, 8, 16, Integer.MAX_VALUE, Integer.MIN_VALUE}) {
                Check.badArgument("direction " + far, () -> c.setWind(far, 0));
                Check.badArgument("strength " + far, () -> c.setWind(0, far));
                Check.badArgument("both " + far, () -> c.setWind(far, far));
            }
            Check.badArgument("strength 4", () -> c.setWind(0, 4));
            Check.due("nothing was set", 42, () -> c.setWind(0, 0));
        });
    }

    private static void addParty() {
        Sentences.test(11, "Adds a party, which stands in a cell.", c -> {
            c.addParty(7, 7);
            Check.due("one party", 1, () -> c.partyCount());
            Check.due("stands there", 63, () -> c.cellOf(0));
            Check.due("is found there", 0, () -> c.partyIn(7, 7));
            Check.due("has not been served", 0, () -> c.servedCount(0));
        });
        Sentences.test(11, COLUMN, c -> {
            c.addParty(0, 3);
            c.addParty(7, 3);
            Check.due("0 is the first", 24, () -> c.cellOf(0));
            Check.due("7 is the last", 31, () -> c.cellOf(1));
            Sentences.noColumn(c, (d, x, y) -> d.addParty(x, y));
        });
        Sentences.test(11, ROW, c -> {
            c.addParty(3, 0);
            c.addParty(3, 7);
            Check.due("0 is the first", 3, () -> c.cellOf(0));
            Check.due("7 is the last", 59, () -> c.cellOf(1));
            Sentences.noRow(c, (d, x, y) -> d.addParty(x, y));
        });
        Sentences.test(11, "Returns the party.", c -> {
            for (int party = 0; party < 8; party++) {
                int number = party;
                Check.due("party " + party, number, () -> c.addParty(7 - number, 6));
            }
        });
        Sentences.test(11, NO_CELL, c -> {
            Sentences.noCell(c, (d, x, y) -> d.addParty(x, y));
            Sentences.addPartiesTo(c, 8);
            Sentences.noCell(c, (d, x, y) -> d.addParty(x, y));
        });
        Sentences.test(11, "Throws `IllegalStateException` if there are 8 parties", c -> {
            Sentences.addPartiesTo(c, 7);
            Check.due("not if there are 7", 7, () -> c.addParty(5, 5));
            Check.badState("if there are 8", () -> c.addParty(6, 6));
            Check.badState("also at a party", () -> c.addParty(5, 5));
            Check.badState("also at the bench", () -> c.addParty(0, 0));
            Check.noSuchElement("nothing was refused", () -> c.refusalReason());
            Check.due("still 8", 8, () -> c.partyCount());
            c.undo();
            Check.due("not if there are 7 again", 7, () -> c.addParty(6, 6));
        });
        Sentences.test(11, REFUSED, c -> {
            c.setTree(7, 7, true);
            c.addParty(1, 0);
            Check.refused("a tree", c, 1, 63, () -> c.addParty(7, 7));
            Check.refused("a party", c, 2, 0, () -> c.addParty(1, 0));
            Check.refused("the bench", c, 3, 0, () -> c.addParty(0, 0));
            Check.due("none was added", 1, () -> c.partyCount());
        });
    }

    private static void moveParty() {
        Sentences.test(12, "Moves a party to a cell.", c -> {
            c.addParty(1, 0);
            c.addParty(2, 0);
            c.moveParty(0, 6, 6);
            Check.due("there", 54, () -> c.cellOf(0));
            Check.due("found there", 0, () -> c.partyIn(6, 6));
            Check.noSuchElement("no longer where it was", () -> c.partyIn(1, 0));
            Check.due("the other one has not moved", 2, () -> c.cellOf(1));
            c.moveParty(0, 6, 6);
            Check.due("still there", 54, () -> c.cellOf(0));
        });
        Sentences.test(12, "- `party`: the party", c -> {
            Sentences.noParty(c, (d, party) -> d.moveParty(party, 5, 5));
            Check.due("7 is the last", 63, () -> c.moveParty(7, 5, 6));
        });
        Sentences.test(12, COLUMN, c -> {
            c.addParty(1, 0);
            c.moveParty(0, 0, 3);
            Check.due("0 is the first", 24, () -> c.cellOf(0));
            c.moveParty(0, 7, 3);
            Check.due("7 is the last", 31, () -> c.cellOf(0));
            Sentences.noColumn(c, (d, x, y) -> d.moveParty(0, x, y));
        });
        Sentences.test(12, ROW, c -> {
            c.addParty(1, 0);
            c.moveParty(0, 3, 7);
            Check.due("7 is the last", 59, () -> c.cellOf(0));
            c.moveParty(0, 3, 0);
            Check.due("0 is the first", 3, () -> c.cellOf(0));
            Sentences.noRow(c, (d, x, y) -> d.moveParty(0, x, y));
        });
        Sentences.test(12, "Returns the number of the cell in which it was.", c -> {
            c.addParty(7, 7);
            Check.due("the last cell", 63, () -> c.moveParty(0, 1, 0));
            Check.due("cell 1", 1, () -> c.moveParty(0, 1, 0));
            c.setBench(4, 4);
            Check.due("cell 1 again", 1, () -> c.moveParty(0, 0, 0));
            Check.due("the first cell", 0, () -> c.moveParty(0, 7, 7));
        });
        Sentences.test(12, "Throws `IndexOutOfBoundsException` if there is no such party or no such cell", c -> {
            Sentences.noIndex(c, -1, (d, party) -> d.moveParty(party, 5, 5));
            c.addParty(1, 0);
            Sentences.noIndex(c, 0, (d, party) -> d.moveParty(party, 5, 5));
            Sentences.noIndex(c, 0, (d, party) -> d.moveParty(party, 8, -1));
            Sentences.noIndex(c, 0, (d, party) -> d.moveParty(party, 0, 0));
            Sentences.noCell(c, (d, x, y) -> d.moveParty(0, x, y));
            Check.noSuchElement("nothing was refused", () -> c.refusalReason());
        });
        Sentences.test(12, REFUSED, c -> {
            c.setTree(7, 7, true);
            c.addParty(1, 0);
            c.addParty(2, 0);
            Check.refused("a tree", c, 1, 63, () -> c.moveParty(1, 7, 7));
            Check.refused("another party", c, 2, 0, () -> c.moveParty(1, 1, 0));
            Check.refused("the bench", c, 3, 0, () -> c.moveParty(1, 0, 0));
            Check.due("it has not moved", 2, () -> c.cellOf(1));
            Check.due("its own cell is not refused", 2, () -> c.moveParty(1, 2, 0));
        });
    }

    private static void lookUps() {
        Sentences.test(13, "Returns the number of parties.", c -> {
            for (int count = 0; count < 8; count++) {
                int parties = count;
                Check.due("count " + count, parties, () -> c.partyCount());
                c.addParty(count, 1);
            }
            Check.due("all 8", 8, () -> c.partyCount());
            Check.badState("no more", () -> c.addParty(0, 2));
            Check.due("still 8", 8, () -> c.partyCount());
        });
        Sentences.plain(14, "Returns the number of the cell.");
        Sentences.test(14, "Returns the cell of a party.", c -> {
            c.setBench(4, 4);
            c.addParty(7, 7);
            c.addParty(0, 0);
            Check.due("the last cell", 63, () -> c.cellOf(0));
            Check.due("the first cell", 0, () -> c.cellOf(1));
        });
        Sentences.test(14, "- `party`: the party", c -> {
            Sentences.addPartiesTo(c, 8);
            Check.due("0 is the first", 56, () -> c.cellOf(0));
            Check.due("7 is the last", 63, () -> c.cellOf(7));
        });
        Sentences.test(14, NO_PARTY, c -> Sentences.noParty(c, (d, party) -> d.cellOf(party)));
        Sentences.plain(15, "Returns the party.");
        Sentences.test(15, "Returns the party in a cell.", c -> {
            Sentences.addPartiesTo(c, 8);
            Check.due("the first", 0, () -> c.partyIn(0, 7));
            Check.due("the last", 7, () -> c.partyIn(7, 7));
        });
        Sentences.test(15, COLUMN, c -> {
            c.addParty(0, 3);
            c.addParty(7, 3);
            Check.due("0 is the first", 0, () -> c.partyIn(0, 3));
            Check.due("7 is the last", 1, () -> c.partyIn(7, 3));
            Sentences.noColumn(c, (d, x, y) -> d.partyIn(x, y));
        });
        Sentences.test(15, ROW, c -> {
            c.addParty(3, 0);
            c.addParty(3, 7);
            Check.due("0 is the first", 0, () -> c.partyIn(3, 0));
            Check.due("7 is the last", 1, () -> c.partyIn(3, 7));
            Sentences.noRow(c, (d, x, y) -> d.partyIn(x, y));
        });
        Sentences.test(15, NO_CELL, c -> {
            c.addParty(7, 7);
            c.addParty(7, 0);
            Sentences.noCell(c, (d, x, y) -> d.partyIn(x, y));
        });
        Sentences.test(15, "Throws `NoSuchElementException` if no party is in the cell", c -> {
            Check.noSuchElement("no parties", () -> c.partyIn(7, 7));
            c.addParty(1, 0);
            c.setTree(2, 0, true);
            Check.noSuchElement("a tree", () -> c.partyIn(2, 0));
            Check.noSuchElement("the bench", () -> c.partyIn(0, 0));
            Check.noSuchElement("nothing", () -> c.partyIn(0, 1));
            c.moveParty(0, 0, 1);
            Check.due("the party", 0, () -> c.partyIn(0, 1));
            Check.noSuchElement("where it was", () -> c.partyIn(1, 0));
            c.undo();
            Check.noSuchElement("where it is no more", () -> c.partyIn(0, 1));
        });
    }

    private static void servedCount() {
        Sentences.plain(16, "Returns the number of times.");
        Sentences.test(16, "Returns how often a party has been served so far.", c -> {
            c.addParty(1, 0);
            c.addParty(2, 1);
            Check.due("not yet", 0, () -> c.servedCount(0));
            for (int times = 1; times <= 3; times++) {
                int served = times;
                c.summon(0, 0);
                Check.due("times " + times, served, () -> c.servedCount(0));
                Check.answerOf(() -> c.summon(0, 0));
                Check.due("a refused one does not count", served, () -> c.servedCount(0));
                c.pass(25);
                Check.due("nor does it end with the plea", served, () -> c.servedCount(0));
            }
            c.summon(0, 4);
            Check.due("one that does not serve", 3, () -> c.servedCount(0));
            Check.due("the other one has not been served", 0, () -> c.servedCount(1));
        });
        Sentences.test(16, "- `party`: the party", c -> {
            Sentences.addPartiesRoundTheBench(c);
            c.summon(0, 0);
            c.summon(7, 7);
            Check.due("0 is the first", 1, () -> c.servedCount(0));
            Check.due("1 has not been served", 0, () -> c.servedCount(1));
            Check.due("7 is the last", 1, () -> c.servedCount(7));
        });
        Sentences.test(16, NO_PARTY, c -> Sentences.noParty(c, (d, party) -> d.servedCount(party)));
    }
}
