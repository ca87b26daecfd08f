/** Each sentence of the promises and terms, at its boundary and on either side of it. */
public final class BoundaryTest {
    public static void main(String[] args) {
        Book book = new Book();
        new TextBoundaries(book).run();
        new TokenBoundaries(book).run();
        new FaultBoundaries(book).run();
        new FeedBoundaries(book).run();
        new AnswerBoundaries(book).run();
        book.finish("BoundaryTest");
    }
}
