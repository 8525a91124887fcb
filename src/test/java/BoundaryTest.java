/**
 * The boundary cases that the document names, sentence by sentence: at the boundary and on either
 * side of it. A check that names no sentence goes on with the one that was named before it.
 */
public final class BoundaryTest {
    public static void main(String[] args) {
        TermsBoundaries.check();
        TextBoundaries.check();
        BoatBoundaries.check();
        ValuesBoundaries.check();
        WhatIfBoundaries.check();
        StateBoundaries.check();
        Doc.everySentenceIsNamed();
        Check.finish();
    }
}
