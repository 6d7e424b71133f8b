/** Promises 11 to 16: parties. */
public final class PartyTest {
    public static void main(String[] args) {
        addParty();
        addOrder();
        moveParty();
        lookUp();
        servedCount();
        Check.end();
    }

    private static void addParty() {
        BoomerangCourt c = new BoomerangCourt();
        c.setTree(2, 2, true);
        Check.refused("11 tree", c, 1, 18, () -> c.addParty(2, 2));
        Check.refused("11 bench", c, 3, 0, () -> c.addParty(0, 0));
        Check.due("11 first", 0, () -> c.addParty(7, 7));
        Check.refused("11 party", c, 2, 0, () -> c.addParty(7, 7));
        Check.due("11 second", 1, () -> c.addParty(0, 7));
        Check.refused("11 the other party", c, 2, 1, () -> c.addParty(0, 7));
        Check.badIndex("11 x 8", () -> c.addParty(8, 0));
        Check.badIndex("11 x -1", () -> c.addParty(-1, 0));
        Check.badIndex("11 y 8", () -> c.addParty(0, 8));
        Check.badIndex("11 y -1", () -> c.addParty(0, -1));
        Check.due("13 partyCount", 2, () -> c.partyCount());
    }

    private static void addOrder() {
        BoomerangCourt c = new BoomerangCourt();
        for (int i = 0; i < 8; i++) {
            int x = i;
            Check.due("11 party " + i, i, () -> c.addParty(x, 1));
            Check.due("13 count " + i, i + 1, () -> c.partyCount());
        }
        Check.badState("11 ninth", () -> c.addParty(0, 2));
        Check.badState("11 the state goes before the refusal", () -> c.addParty(0, 1));
        Check.badIndex("11 the index goes before the state", () -> c.addParty(0, 8));
        Check.noSuchElement("11 nothing was refused", () -> c.refusalReason());
        Check.due("13 still 8", 8, () -> c.partyCount());
    }

    private static void moveParty() {
        BoomerangCourt c = new BoomerangCourt();
        Check.badIndex("12 no party yet", () -> c.moveParty(0, 1, 1));
        c.addParty(1, 1);
        c.addParty(2, 1);
        c.setTree(3, 1, true);
        Check.due("12 move", 9, () -> c.moveParty(0, 7, 7));
        Check.due("14 cell", 63, () -> c.cellOf(0));
        Check.due("12 its own cell", 63, () -> c.moveParty(0, 7, 7));
        Check.refused("12 tree", c, 1, 11, () -> c.moveParty(0, 3, 1));
        Check.refused("12 party", c, 2, 1, () -> c.moveParty(0, 2, 1));
        Check.refused("12 bench", c, 3, 0, () -> c.moveParty(1, 0, 0));
        Check.badIndex("12 party 2", () -> c.moveParty(2, 5, 5));
        Check.badIndex("12 party -1", () -> c.moveParty(-1, 5, 5));
        Check.badIndex("12 x 8", () -> c.moveParty(0, 8, 5));
        Check.badIndex("12 x -1", () -> c.moveParty(0, -1, 5));
        Check.badIndex("12 y 8", () -> c.moveParty(0, 5, 8));
        Check.badIndex("12 y -1", () -> c.moveParty(0, 5, -1));
        Check.due("14 refusals change nothing", 63, () -> c.cellOf(0));
        Check.due("14 the other party", 10, () -> c.cellOf(1));
        Check.due("2 its first cell is free", 2, () -> c.setTree(1, 1, true));
    }

    private static void lookUp() {
        BoomerangCourt c = new BoomerangCourt();
        c.addParty(6, 3);
        c.addParty(5, 3);
        Check.due("14 cell 0", 30, () -> c.cellOf(0));
        Check.due("14 cell 1", 29, () -> c.cellOf(1));
        Check.badIndex("14 party 2", () -> c.cellOf(2));
        Check.badIndex("14 party -1", () -> c.cellOf(-1));
        Check.badIndex("14 party 8", () -> c.cellOf(8));
        Check.due("15 party 0", 0, () -> c.partyIn(6, 3));
        Check.due("15 party 1", 1, () -> c.partyIn(5, 3));
        Check.noSuchElement("15 nobody", () -> c.partyIn(4, 3));
        Check.noSuchElement("15 the bench is no party", () -> c.partyIn(0, 0));
        Check.badIndex("15 x 8", () -> c.partyIn(8, 3));
        Check.badIndex("15 x -1", () -> c.partyIn(-1, 3));
        Check.badIndex("15 y 8", () -> c.partyIn(3, 8));
        Check.badIndex("15 y -1", () -> c.partyIn(3, -1));
    }

    private static void servedCount() {
        BoomerangCourt c = new BoomerangCourt();
        Check.badIndex("16 no party", () -> c.servedCount(0));
        c.addParty(1, 0);
        c.addParty(2, 0);
        Check.due("16 not yet", 0, () -> c.servedCount(0));
        c.summon(0, 0);
        Check.due("16 once", 1, () -> c.servedCount(0));
        Check.due("16 the other not", 0, () -> c.servedCount(1));
        Check.due("16 refused", "throws.UnsupportedOperationException", () -> c.summon(0, 0));
        Check.due("16 a refused summons does not count", 1, () -> c.servedCount(0));
        Check.due("16 no hit", false, () -> c.summon(1, 4));
        Check.due("16 nor does one that does not serve", 0, () -> c.servedCount(1));
        c.pass(25);
        c.summon(0, 0);
        Check.due("16 twice", 2, () -> c.servedCount(0));
        Check.badIndex("16 party 2", () -> c.servedCount(2));
        Check.badIndex("16 party -1", () -> c.servedCount(-1));
    }
}
