/** What can be seen of a court without changing it, as text. Asks at most 90 calls. */
final class Observed {
    private Observed() {
    }

    /** What is undone and saved. */
    static String stateOf(BoomerangCourt c) {
        StringBuilder seen = new StringBuilder();
        seen.append("trees ").append(c.treeBits()).append(" bench ").append(c.bench());
        seen.append(" flights ").append(c.flightLength(24)).append(' ').append(c.flightBits(24))
                .append(' ').append(c.flightBits(0));
        seen.append(" parties ").append(c.partyCount());
        for (int party = 0; party < c.partyCount(); party++) {
            seen.append(" (").append(c.cellOf(party)).append(' ').append(c.servedCount(party)).append(')');
        }
        seen.append(" boomerangs ").append(c.boomerangs()).append(" throws ").append(c.throwCount());
        seen.append(" sitting ").append(c.sittingBits()).append(" hour ").append(c.hour());
        seen.append(" pleas ").append(c.pleaCount());
        for (int plea = 0; plea < c.pleaCount(); plea++) {
            seen.append(" (").append(c.pleaParty(plea)).append(' ').append(c.pleaFrom(plea)).append(' ')
                    .append(c.pleaUntil(plea)).append(')');
        }
        seen.append(" coins ").append(c.coins()).append(' ').append(c.coinsByAccounts());
        seen.append(" share ").append(Check.answerOf(() -> c.caughtShareBits()));
        seen.append(" steps ").append(Check.answerOf(() -> c.meanSteps()));
        return seen.append(" signature ").append(c.signature()).toString();
    }

    static String refusalOf(BoomerangCourt c) {
        return Check.answerOf(() -> c.refusalReason()) + " " + Check.answerOf(() -> c.refusalDetail());
    }

    static String faultsOf(BoomerangCourt c) {
        return Check.answerOf(() -> c.errorPosition()) + " " + Check.answerOf(() -> c.failedCommand());
    }

    static String lineOf(BoomerangCourt c) {
        StringBuilder line = new StringBuilder();
        for (int i = 0; i < 32; i++) {
            int index = i;
            Object sign = Check.answerOf(() -> c.lineAt(index));
            if (!(sign instanceof Character)) {
                return line.append(' ').append(sign).toString();
            }
            line.append(sign);
        }
        return line.toString();
    }

    static String allOf(BoomerangCourt c) {
        return stateOf(c) + " refusal " + refusalOf(c) + " faults " + faultsOf(c) + " line " + lineOf(c);
    }
}
