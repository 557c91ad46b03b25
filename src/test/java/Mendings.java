/** What promises 11, 26 and 27 answer for a card of today, asked together. */
final class Mendings {
    private Mendings() {
    }

    /** Both sums, which change nothing, then how many are struck, and who stands on the card then. */
    static void due(String what, KayfabeRing ring, int sum, int struck, int... places) {
        Check.due("26 " + what, sum, ring.mending());
        Check.due("27 " + what, sum, ring.mendingAnew());
        Check.due("26 changes nothing: " + what, sum, ring.mending());
        Check.due("11 " + what, struck, ring.mend());
        Check.due("11 matches: " + what, places.length / 2, ring.ofCard(ring.day(), 1));
        for (int i = 0; i < places.length; i++) {
            Check.due("11 place " + i + ": " + what, places[i], ring.ofMatch(ring.day(), i / 2, i % 2));
        }
    }

    static void throwAll(String what, KayfabeRing ring) {
        Check.isThrown("11 " + what, Check.STATE, ring::mend);
        Check.isThrown("26 " + what, Check.STATE, ring::mending);
        Check.isThrown("27 " + what, Check.STATE, ring::mendingAnew);
    }
}
