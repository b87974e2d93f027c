/** Promise 35: the checksum is that of what all other calls answer. */
public final class DigestTest {
    public static void main(String[] args) {
        Story story = new Story("a new one");
        isAsAsked(story);
        isAsAsked(story.then("make 2 0 0", "make 2 1 0", "make 2 2 0", "make 2 3 0", "make 4 2 3", "make 8 6 0", "make 7 1 7"));
        isAsAsked(story.then("machine", "arc 0 0 0 0 1", "arc 0 0 1 1 -1", "arc 0 1 1 0 0", "arc 0 1 1 0 2", "finals 0 3"));
        isAsAsked(story.then("machine", "equation", "symbol 0 0 10", "symbol 0 1 3", "symbol 0 1 13"));
        isAsAsked(story.then("schema", "schema", "make 1 0 0", "beneath 0 1 9", "make 8 3 0", "beneath 0 2 10", "beneath 1 2 1"));
        isAsAsked(story.then("node -1 2", "node 0 2", "node 1 3"));
        isAsAsked(story.then("step 0 0 7 0", "step 3 0 0 0", "step 6 0 2 0", "step 4 0 7 1", "step 2 1 0 0"));
        isAsAsked(story.then("domain 0 0 1", "clear"));
        isAsAsked(Story.begun());
        isAsAsked(Story.full());
        Check.end("DigestTest");
    }

    private static void isAsAsked(Story story) {
        long d = 58152;
        for (long v : Numbers.of(story)) {
            d = d * 31 + v;
        }
        WordWright x = story.told();
        Check.due(x, d, "digest");
        Check.due(x, d, "digest");
    }
}
