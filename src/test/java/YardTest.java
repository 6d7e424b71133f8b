/** Promises 1 to 10: a new object and the yard. */
public final class YardTest {
    public static void main(String[] args) {
        newObject();
        setTree();
        setBench();
        turnedTrees();
        reach();
        setWind();
        Check.end();
    }

    private static void newObject() {
        BoomerangCourt c = new BoomerangCourt();
        Check.due("1 treeBits", 0L, () -> c.treeBits());
        Check.due("1 partyCount", 0, () -> c.partyCount());
        Check.due("1 hour", 0, () -> c.hour());
        Check.due("1 bench", 0, () -> c.bench());
        Check.due("1 boomerangs", 10, () -> c.boomerangs());
        Check.due("1 coins", 50, () -> c.coins());
        Check.due("1 throwCount", 0, () -> c.throwCount());
        Check.due("1 pleaCount", 0, () -> c.pleaCount());
        Check.due("1 sittingBits", 261888, () -> c.sittingBits());
        Check.due("1 wind", 0, () -> c.setWind(0, 0));
        Check.due("1 signature", 0L, () -> c.signature());
        Check.due("1 isConsistent", true, () -> c.isConsistent());
        Check.noSuchElement("1 refusalReason", () -> c.refusalReason());
        Check.noSuchElement("1 refusalDetail", () -> c.refusalDetail());
        Check.noSuchElement("1 errorPosition", () -> c.errorPosition());
        Check.noSuchElement("1 failedCommand", () -> c.failedCommand());
        Check.badIndex("1 lineAt", () -> c.lineAt(0));
        Check.badState("1 restore", () -> c.restore());
    }

    private static void setTree() {
        BoomerangCourt c = new BoomerangCourt();
        Check.due("2 plant", 1, () -> c.setTree(3, 2, true));
        Check.due("2 plant again", 1, () -> c.setTree(3, 2, true));
        Check.due("4 treeBits", 1L << 19, () -> c.treeBits());
        Check.due("2 plant the last cell", 2, () -> c.setTree(7, 7, true));
        Check.due("4 treeBits", (1L << 19) | (1L << 63), () -> c.treeBits());
        Check.due("2 fell where no tree is", 2, () -> c.setTree(0, 5, false));
        Check.due("2 fell", 1, () -> c.setTree(3, 2, false));
        Check.badIndex("2 x -1", () -> c.setTree(-1, 0, true));
        Check.badIndex("2 x 8", () -> c.setTree(8, 0, true));
        Check.badIndex("2 y -1", () -> c.setTree(0, -1, false));
        Check.badIndex("2 y 8", () -> c.setTree(0, 8, false));
        Check.badIndex("2 far off", () -> c.setTree(Integer.MAX_VALUE, Integer.MIN_VALUE, true));
        Check.noSuchElement("2 no refusal was kept", () -> c.refusalReason());
        Check.refused("2 tree in the bench's cell", c, 3, 0, () -> c.setTree(0, 0, true));
        Check.due("2 felling at the bench", 1, () -> c.setTree(0, 0, false));
        c.addParty(4, 4);
        c.addParty(5, 4);
        Check.refused("2 tree in a party's cell", c, 2, 1, () -> c.setTree(5, 4, true));
        Check.due("2 felling at a party", 1, () -> c.setTree(5, 4, false));
        Check.due("4 refusals change nothing", 1L << 63, () -> c.treeBits());
    }

    private static void setBench() {
        BoomerangCourt c = new BoomerangCourt();
        Check.due("3 move", 0, () -> c.setBench(2, 1));
        Check.due("10 bench", 10, () -> c.bench());
        Check.due("3 the same cell", 10, () -> c.setBench(2, 1));
        Check.badIndex("3 x 8", () -> c.setBench(8, 1));
        Check.badIndex("3 x -1", () -> c.setBench(-1, 1));
        Check.badIndex("3 y 8", () -> c.setBench(1, 8));
        Check.badIndex("3 y -1", () -> c.setBench(1, -1));
        c.setTree(7, 0, true);
        Check.refused("3 tree", c, 1, 7, () -> c.setBench(7, 0));
        c.addParty(0, 7);
        Check.refused("3 party", c, 2, 0, () -> c.setBench(0, 7));
        Check.due("10 bench is where it was", 10, () -> c.bench());
        Check.due("2 a tree where the bench was", 2, () -> c.setTree(0, 0, true));
    }

    private static void turnedTrees() {
        for (int cell = 1; cell < 64; cell++) {
            BoomerangCourt c = new BoomerangCourt();
            int x = cell % 8;
            int y = cell / 8;
            c.setTree(x, y, true);
            long turned = 1L << (8 * x + 7 - y);
            Check.due("5 turned " + cell, turned, () -> c.turnedTrees());
            Check.due("6 turned " + cell, turned, () -> c.turnedTreesByCells());
        }
        BoomerangCourt c = new BoomerangCourt();
        c.setBench(3, 3);
        c.setTree(0, 0, true);
        c.setTree(1, 0, true);
        c.setTree(7, 5, true);
        long turned = (1L << 7) | (1L << 15) | (1L << 58);
        Check.due("5 three trees", turned, () -> c.turnedTrees());
        Check.due("6 three trees", turned, () -> c.turnedTreesByCells());
    }

    private static void reach() {
        BoomerangCourt c = new BoomerangCourt();
        c.setBench(4, 4);
        Check.due("7 all cells", -1L, () -> c.reach(5, 5));
        Check.due("8 all cells", -1L, () -> c.reachByQueue(5, 5));
        // A column and a row of trees cut the torus open; what is left is connected across them no more.
        for (int i = 0; i < 8; i++) {
            c.setTree(0, i, true);
            c.setTree(i, 0, true);
        }
        // And a second column at 3 leaves the columns 1 to 2 and 4 to 7.
        for (int i = 1; i < 8; i++) {
            c.setTree(3, i, true);
        }
        long left = 0;
        long right = 0;
        for (int y = 1; y < 8; y++) {
            left |= 0x06L << (8 * y);
            right |= 0xF0L << (8 * y);
        }
        long leftCells = left;
        long rightCells = right;
        Check.due("7 left", leftCells, () -> c.reach(2, 7));
        Check.due("8 left", leftCells, () -> c.reachByQueue(2, 7));
        Check.due("7 right", rightCells, () -> c.reach(7, 1));
        Check.due("8 right", rightCells, () -> c.reachByQueue(7, 1));
        Check.due("7 tree", 0L, () -> c.reach(3, 3));
        Check.due("8 tree", 0L, () -> c.reachByQueue(3, 3));
        c.setTree(0, 4, false);
        Check.due("7 still cut at column 3", rightCells | (1L << 32) | leftCells, () -> c.reach(7, 1));
        Check.due("8 round the edge", rightCells | (1L << 32) | leftCells, () -> c.reachByQueue(0, 4));
        c.setTree(0, 4, true);
        c.setTree(6, 0, false);
        Check.due("7 the gap in row 0", rightCells | (1L << 6), () -> c.reach(6, 0));
        Check.due("8 the gap in row 0", rightCells | (1L << 6), () -> c.reachByQueue(6, 0));
        c.addParty(5, 5);
        Check.due("7 a party does not matter", rightCells | (1L << 6), () -> c.reach(5, 5));
        Check.due("8 a party does not matter", rightCells | (1L << 6), () -> c.reachByQueue(5, 5));
        Check.badIndex("7 x -1", () -> c.reach(-1, 0));
        Check.badIndex("7 y 8", () -> c.reach(0, 8));
        Check.badIndex("8 x 8", () -> c.reachByQueue(8, 0));
        Check.badIndex("8 y -1", () -> c.reachByQueue(0, -1));
        diagonal();
        overEachEdge();
    }

    /** Two rows of trees, or two columns of them, leave the cells on both sides of the edge. */
    private static void overEachEdge() {
        BoomerangCourt rows = new BoomerangCourt();
        BoomerangCourt columns = new BoomerangCourt();
        for (int i = 0; i < 8; i++) {
            rows.setTree(i, 1, true);
            rows.setTree(i, 6, true);
            columns.setTree(1, i, true);
            columns.setTree(6, i, true);
        }
        long edgeRows = 0xFF000000000000FFL;
        long edgeColumns = 0x8181818181818181L;
        Check.due("7 from row 7 to row 0", edgeRows, () -> rows.reach(2, 7));
        Check.due("8 from row 7 to row 0", edgeRows, () -> rows.reachByQueue(2, 7));
        Check.due("7 from row 0 to row 7", edgeRows, () -> rows.reach(2, 0));
        Check.due("8 from row 0 to row 7", edgeRows, () -> rows.reachByQueue(2, 0));
        Check.due("7 from column 7 to column 0", edgeColumns, () -> columns.reach(7, 3));
        Check.due("8 from column 7 to column 0", edgeColumns, () -> columns.reachByQueue(7, 3));
        Check.due("7 from column 0 to column 7", edgeColumns, () -> columns.reach(0, 3));
        Check.due("8 from column 0 to column 7", edgeColumns, () -> columns.reachByQueue(0, 3));
    }

    /** Diagonal neighbours are not connected. */
    private static void diagonal() {
        BoomerangCourt c = new BoomerangCourt();
        c.setTree(5, 4, true);
        c.setTree(3, 4, true);
        c.setTree(4, 5, true);
        c.setTree(4, 3, true);
        Check.due("7 alone", 1L << 36, () -> c.reach(4, 4));
        Check.due("8 alone", 1L << 36, () -> c.reachByQueue(4, 4));
        Check.due("7 outside", ~((1L << 36) | c.treeBits()), () -> c.reach(0, 0));
        Check.due("8 outside", ~((1L << 36) | c.treeBits()), () -> c.reachByQueue(0, 0));
    }

    private static void setWind() {
        BoomerangCourt c = new BoomerangCourt();
        Check.due("9 first", 0, () -> c.setWind(7, 3));
        Check.due("9 second", 73, () -> c.setWind(2, 0));
        Check.badArgument("9 direction 8", () -> c.setWind(8, 0));
        Check.badArgument("9 direction -1", () -> c.setWind(-1, 0));
        Check.badArgument("9 strength 4", () -> c.setWind(0, 4));
        Check.badArgument("9 strength -1", () -> c.setWind(0, -1));
        Check.due("9 third", 20, () -> c.setWind(0, 1));
        Check.due("9 the wind blows", 9, () -> c.flightLength(0));
    }
}
