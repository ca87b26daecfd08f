/** Each sentence of what the class is, of its terms and of its promises, at its boundary and on either side of it. */
public final class BoundaryTest {
    public static void main(String[] args) {
        Book book = new Book();
        new OverviewBoundaries(book).run();
        new TextBoundaries(book).run();
        new TokenBoundaries(book).run();
        new FaultBoundaries(book).run();
        new FeedBoundaries(book).run();
        new AnswerBoundaries(book).run();
        book.finish("BoundaryTest");
    }
}
